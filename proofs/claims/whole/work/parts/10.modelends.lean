/-! the reference's narrowing: it goes on behind a clash, with whatever values -/
def RX (l u : Int → Int) : Prop := ∀ k, 0 ≤ k → k < 6 → InR (l k) ∧ InR (u k)
theorem RX.up {l u : Int → Int} {k a b : Int} (h : RX l u) (ha : InR a) (hb : InR b) : RX (upZ l k a) (upZ u k b) := by
  intro j h0 h1
  by_cases e : j = k
  · subst e; rw [upZ_s, upZ_s]; exact ⟨ha, hb⟩
  · rw [upZ_n e, upZ_n e]; exact h j h0 h1
theorem upZ_id (g : Int → Int) (k : Int) : upZ g k (g k) = g := by
  funext j
  by_cases e : j = k
  · subst e; rw [upZ_s]
  · rw [upZ_n e]
theorem iI_wrap (z : Int) : ∃ w : Int, InR w ∧ iI z = iI w ∧ (InR z → w = z) := by
  refine ⟨(iI z).toInt, iI_r _, iI_of _, fun h => iI_t h⟩
def exF (l : Int → Int) (k : Int) : Int → Int := fun j => if j = k then 0 else l j
theorem sumT_exF {l : Int → Int} {S k : Int} (h0 : 0 ≤ k) (hk : tb S k = true) : ∀ N : Nat, k < (N : Int) → sumT (exF l k) S N = sumT l S N - l k := by
  have key : ∀ N : Nat, (N : Int) ≤ k → sumT (exF l k) S N = sumT l S N := fun N hN => sumT_c N (fun j hj _ => by unfold exF; rw [if_neg (by omega)])
  intro N
  induction N with
  | zero => intro h; omega
  | succ N ih =>
    intro h
    show sumT (exF l k) S N + _ = sumT l S N + _ - l k
    by_cases e : k = (N : Int)
    · subst e
      rw [key N (by omega), if_pos hk, if_pos hk]
      unfold exF
      rw [if_pos rfl]
      omega
    · rw [ih (by omega)]
      unfold exF
      rw [if_neg (Ne.symm e)]
      omega
def wdn (n : Int) (l u : Int → Int) : Int := sumT (fun k => u k - l k) 63 n.toNat
theorem wdn_up {l u : Int → Int} {k a b n : Int} (h0 : 0 ≤ k) (h1 : k < n) (h6 : n ≤ 6) : wdn n (upZ l k a) (upZ u k b) = wdn n l u + (b - u k) - (a - l k) := by
  have e : (fun j => upZ u k b j - upZ l k a j) = upZ (fun j => u j - l j) k (b - a) := by
    funext j
    by_cases hj : j = k
    · subst hj; rw [upZ_s, upZ_s, upZ_s]
    · rw [upZ_n hj, upZ_n hj, upZ_n hj]
  unfold wdn
  rw [e, sumT_up h0, if_pos ⟨by omega, tb63i h0 (by omega)⟩]
  omega
theorem wdn_b {l u U V : Int → Int} {n : Int} (h : Bx n U V l u) (h0 : 0 ≤ n) (h6 : n ≤ 6) (hUV : ∀ k, 0 ≤ k → k < n → 0 ≤ U k ∧ V k ≤ 999) : 0 ≤ wdn n l u ∧ wdn n l u ≤ 5994 := by
  have := sumT_b (f := fun k => u k - l k) (S := 63) (A := 0) (B := 999) (by omega) (by omega) n.toNat (fun k hk _ => by
    have e1 := h k (by omega) (by omega)
    have e2 := hUV k (by omega) (by omega)
    show 0 ≤ u k - l k ∧ u k - l k ≤ 999
    omega)
  unfold wdn
  omega
theorem tb_cmp {c wo m : Int} (h0 : 0 ≤ wo) (h1 : wo < p2 c) (h2 : 0 ≤ m) (h3 : m < c) : tb (p2 c - 1 - wo) m = !tb wo m := by
  show (p2 c - 1 - wo).toNat.testBit m.toNat = !wo.toNat.testBit m.toNat
  have e : (p2 c - 1 - wo).toNat = 2 ^ c.toNat - (wo.toNat + 1) := by
    unfold p2
    omega
  have h4 : wo.toNat < 2 ^ c.toNat := by
    unfold p2 at h1
    generalize 2 ^ c.toNat = q at h1 ⊢
    omega
  rw [e, Nat.testBit_two_pow_sub_succ h4]
  have : m.toNat < c.toNat := by omega
  simp [this]
def NG (n c : Int) (U V Sm L Gm : Int → Int) (mi : Int) (c0 : Bool) (l0 u0 : Int → Int) (k : Int) (ch : Bool) (l u : Int → Int) : Prop := Bx n U V l u ∧ (∀ T, tb T mi = true → Enc n c U V Sm L Gm T l0 u0 → Enc n c U V Sm L Gm T l u) ∧ wdn n l u ≤ wdn n l0 u0 ∧ ((ch = false ∧ c0 = false ∧ l = l0 ∧ u = u0 ∧ ∀ k2, 0 ≤ k2 → k2 < k → tb (Sm mi) k2 = true → Cn Sm L Gm l0 u0 mi k2) ∨ (ch = true ∧ (c0 = true ∨ wdn n l u < wdn n l0 u0)))
def NB (n c : Int) (U V Sm L Gm : Int → Int) (mi : Int) (l0 u0 l u : Int → Int) : Prop := (∃ j, 0 ≤ j ∧ j < n ∧ u j < l j) ∧ (Bx n U V l0 u0 → ∀ T, tb T mi = true → Enc n c U V Sm L Gm T l0 u0 → Cl n c U V Sm L Gm T)
section NARROW
variable {n c : Int} {U V Sm L Gm : Int → Int} {mi : Int} {c0 ch : Bool} {l0 u0 l u : Int → Int} {k : Int}
theorem NG.first (h : Bx n U V l0 u0) : NG n c U V Sm L Gm mi c0 l0 u0 0 c0 l0 u0 := by
  refine ⟨h, fun _ _ z => z, Int.le_refl _, ?_⟩
  cases c0
  · exact Or.inl ⟨rfl, rfl, rfl, rfl, fun k2 _ _ => by omega⟩
  · exact Or.inr ⟨rfl, Or.inl rfl⟩
theorem NB.first (h : ∃ j, 0 ≤ j ∧ j < n ∧ u0 j < l0 j) : NB n c U V Sm L Gm mi l0 u0 l0 u0 := by
  refine ⟨h, fun hb => ?_⟩
  obtain ⟨j, h0, h1, h2⟩ := h
  have := hb j h0 h1
  omega
theorem NG.skip (h : NG n c U V Sm L Gm mi c0 l0 u0 k ch l u) (ht : ¬ tb (Sm mi) k = true) : NG n c U V Sm L Gm mi c0 l0 u0 (k + 1) ch l u := by
  refine ⟨h.1, h.2.1, h.2.2.1, h.2.2.2.imp (fun z => ⟨z.1, z.2.1, z.2.2.1, z.2.2.2.1, fun k2 h0 h1 h2 => ?_⟩) id⟩
  rcases (by omega : k2 < k ∨ k2 = k) with q | q
  · exact z.2.2.2.2 k2 h0 q h2
  · subst q; exact absurd h2 ht
theorem NB.step {x y : Int} (h : NB n c U V Sm L Gm mi l0 u0 l u) (hx : l k ≤ x) (hy : y ≤ u k) : NB n c U V Sm L Gm mi l0 u0 (upZ l k x) (upZ u k y) := by
  obtain ⟨⟨j, h0, h1, h2⟩, h3⟩ := h
  refine ⟨⟨j, h0, h1, ?_⟩, h3⟩
  by_cases e : j = k
  · subst e; rw [upZ_s, upZ_s]; omega
  · rw [upZ_n e, upZ_n e]; exact h2
theorem NG.step {x y : Int} {ch2 : Bool} (h : NG n c U V Sm L Gm mi c0 l0 u0 k ch l u) (hm : 0 ≤ mi ∧ mi < c) (hk : 0 ≤ k ∧ k < n) (hn : n ≤ 6) (ht : tb (Sm mi) k = true) (hS : 0 ≤ Sm mi ∧ Sm mi < p2 n)
    (hx : x = max (l k) (L mi - (sumT u (Sm mi) 6 - u k))) (hy : y = min (u k) (Gm mi - (sumT l (Sm mi) 6 - l k))) (hc : (ch2 = true ∧ (ch = true ∨ l k < x ∨ y < u k)) ∨ (ch2 = false ∧ ch = false ∧ x = l k ∧ y = u k)) :
    NG n c U V Sm L Gm mi c0 l0 u0 (k + 1) ch2 (upZ l k x) (upZ u k y) ∨ NB n c U V Sm L Gm mi l0 u0 (upZ l k x) (upZ u k y) := by
  obtain ⟨h1, h2, h3, h4⟩ := h
  have hb := h1 k hk.1 hk.2
  have hE2 : ∀ T, tb T mi = true → Enc n c U V Sm L Gm T l0 u0 → Enc n c U V Sm L Gm T (upZ l k x) (upZ u k y) := fun T hT h0 => (h2 T hT h0).up hT hm hk hn ht hS hx hy
  have hw : wdn n (upZ l k x) (upZ u k y) = wdn n l u + (y - u k) - (x - l k) := wdn_up hk.1 hk.2 hn
  by_cases hxy : x ≤ y
  · left
    refine ⟨h1.up (by omega), hE2, by omega, ?_⟩
    rcases hc with ⟨a1, a2⟩ | ⟨a1, a2, a3, a4⟩
    · refine Or.inr ⟨a1, ?_⟩
      rcases h4 with ⟨b1, b2, b3, b4, b5⟩ | ⟨b1, b2⟩
      · rcases a2 with q | q | q
        · rw [b1] at q; exact absurd q (by decide)
        · right; omega
        · right; omega
      · rcases b2 with q | q
        · exact Or.inl q
        · right; omega
    · rw [a3, a4, upZ_id, upZ_id]
      rcases h4 with ⟨b1, b2, b3, b4, b5⟩ | ⟨b1, b2⟩
      · refine Or.inl ⟨a1, b2, b3, b4, fun k2 g0 g1 g2 => ?_⟩
        rcases (by omega : k2 < k ∨ k2 = k) with q | q
        · exact b5 k2 g0 q g2
        · subst q
          rw [← b3, ← b4]
          unfold Cn
          omega
      · rw [b1] at a2; exact absurd a2 (by decide)
  · right
    refine ⟨⟨k, hk.1, hk.2, by rw [upZ_s, upZ_s]; omega⟩, fun _ T hT h0 => ?_⟩
    exact Enc.clash (k := k) (hE2 T hT h0) hk (by rw [upZ_s, upZ_s]; omega)
end NARROW
theorem mG_b {fb gm : Int → Int} {nb n c : Int} (hV : HV fb nb) (hM : HM gm c nb n) {m : Int} (h0 : 0 ≤ m) (h1 : m < c) : (0 ≤ mS gm m ∧ mS gm m < p2 n) ∧ (0 ≤ mL fb gm m ∧ mL fb gm m ≤ 1000000000) ∧ (-20000 ≤ mG fb gm m ∧ mG fb gm m ≤ 1000000000) := by
  obtain ⟨a1, a2, a3, a4⟩ := hM m h0 h1
  have b1 := (hMea_v hV a1.1 a1.2).1
  have b2 := hWat_v hV a1.1 a1.2 a2.1
  have b3 := hMul_v hV a1.1 a1.2 a4.1 (by omega)
  have f3 : mG fb gm m = gm (m * 4 + 3) * hMea fb (gm (m * 4 + 0)) + hMea fb (gm (m * 4 + 0)) - 1 - hWat fb (gm (m * 4 + 0)) (gm (m * 4 + 1)) := rfl
  have f4 : mL fb gm m = max 0 (gm (m * 4 + 3) * hMea fb (gm (m * 4 + 0)) - hWat fb (gm (m * 4 + 0)) (gm (m * 4 + 1))) := rfl
  have f5 : mS gm m = gm (m * 4 + 2) := rfl
  rw [f5]
  exact ⟨a3, by omega, by omega⟩
/-- a walk through the mornings -/
def IM (n c : Int) (U V Sm L Gm : Int → Int) (T : Int) (l0 u0 : Int → Int) (i : Int) (good ch : Bool) (l u : Int → Int) : Prop :=
  (good = false ∧ Cl n c U V Sm L Gm T) ∨ (good = true ∧ ((Bx n U V l u ∧ Enc n c U V Sm L Gm T l u ∧ wdn n l u ≤ wdn n l0 u0 ∧ ((ch = false ∧ l = l0 ∧ u = u0 ∧ ∀ m, 0 ≤ m → m < i → m < c → tb T m = true → Okm n Sm L Gm l0 u0 m) ∨ (ch = true ∧ wdn n l u < wdn n l0 u0))) ∨ ((∃ j, 0 ≤ j ∧ j < n ∧ u j < l j) ∧ Cl n c U V Sm L Gm T)))
section WALK
variable {n c : Int} {U V Sm L Gm : Int → Int} {T i : Int} {good ch : Bool} {l0 u0 l u : Int → Int}
theorem IM.first (h : Bx n U V l u) (he : Enc n c U V Sm L Gm T l u) : IM n c U V Sm L Gm T l u 0 true false l u := Or.inr ⟨rfl, Or.inl ⟨h, he, Int.le_refl _, Or.inl ⟨rfl, rfl, rfl, fun m _ h1 => by omega⟩⟩⟩
theorem IM.bad (h : IM n c U V Sm L Gm T l0 u0 i good ch l u) (hg : ¬ good = true) (j : Int) (ch2 : Bool) (l2 u2 : Int → Int) : IM n c U V Sm L Gm T l0 u0 j false ch2 l2 u2 := by
  rcases h with ⟨_, h2⟩ | ⟨h1, _⟩
  · exact Or.inl ⟨rfl, h2⟩
  · exact absurd h1 hg
theorem IM.skip (h : IM n c U V Sm L Gm T l0 u0 i good ch l u) (hg : good = true) (ht : ¬ tb T i = true) : IM n c U V Sm L Gm T l0 u0 (i + 1) true ch l u := by
  rcases h with ⟨h1, _⟩ | ⟨_, h2⟩
  · rw [h1] at hg; exact absurd hg (by decide)
  · refine Or.inr ⟨rfl, h2.imp (fun z => ⟨z.1, z.2.1, z.2.2.1, z.2.2.2.imp (fun y => ⟨y.1, y.2.1, y.2.2.1, fun m g0 g1 g2 g3 => ?_⟩) id⟩) id⟩
    rcases (by omega : m < i ∨ m = i) with q | q
    · exact y.2.2.2 m g0 q g2 g3
    · subst q; exact absurd g3 ht
theorem IM.clash (hm : 0 ≤ i ∧ i < c) (ht : tb T i = true) (hb : Bad Sm L Gm i) (j : Int) (ch2 : Bool) (l2 u2 : Int → Int) : IM n c U V Sm L Gm T l0 u0 j false ch2 l2 u2 := Or.inl ⟨rfl, Bad.clash hm ht hb⟩
theorem IM.step {ch2 : Bool} {l2 u2 : Int → Int} (h : IM n c U V Sm L Gm T l0 u0 i good ch l u) (hg : good = true) (ht : tb T i = true) (hn : n ≤ 6) (hb : ¬ Bad Sm L Gm i) (hmono : ∀ j, 0 ≤ j → j < n → l j ≤ l2 j ∧ u2 j ≤ u j) (hx : NG n c U V Sm L Gm i ch l u n ch2 l2 u2 ∨ NB n c U V Sm L Gm i l u l2 u2) : IM n c U V Sm L Gm T l0 u0 (i + 1) true ch2 l2 u2 := by
  rcases h with ⟨h1, _⟩ | ⟨_, h2⟩
  · rw [h1] at hg; exact absurd hg (by decide)
  · refine Or.inr ⟨rfl, ?_⟩
    rcases h2 with ⟨a1, a2, a3, a4⟩ | ⟨a1, a2⟩
    · rcases hx with ⟨b1, b2, b3, b4⟩ | ⟨b1, b2⟩
      · refine Or.inl ⟨b1, b2 T ht a2, by omega, ?_⟩
        rcases b4 with ⟨c1, c2, c3, c4, c5⟩ | ⟨c1, c2⟩
        · rcases a4 with ⟨d1, d2, d3, d4⟩ | ⟨d1, _⟩
          · refine Or.inl ⟨c1, by rw [c3, d2], by rw [c4, d3], fun m g0 g1 g2 g3 => ?_⟩
            rcases (by omega : m < i ∨ m = i) with q | q
            · exact d4 m g0 q g2 g3
            · subst q
              refine ⟨hb, fun k k0 k1 k2 => ?_⟩
              rw [← d2, ← d3]
              exact c5 k k0 k1 k2
          · rw [d1] at c2; exact absurd c2 (by decide)
        · refine Or.inr ⟨c1, ?_⟩
          rcases c2 with q | q
          · rcases a4 with ⟨d1, _⟩ | ⟨_, d2⟩
            · rw [d1] at q; exact absurd q (by decide)
            · omega
          · omega
      · exact Or.inr ⟨b1, b2 a1 T ht a2⟩
    · rcases hx with hx | hx
      · exact absurd hmono (fun hm => by
          obtain ⟨j, j0, j1, j2⟩ := a1
          have e1 := hm j j0 j1
          have e2 := hx.1 j j0 j1
          omega)
      · exact Or.inr ⟨hx.1, a2⟩
end WALK
set_option maxHeartbeats 4000000 in
set_option maxRecDepth 100000 in
theorem c_X8_startEnds {l : Launch} {G : GT} {m aBath aBather aMorn aText aRB aRN aLow aHigh aNeeds aLikes aHts aBook aImg aKept : Nat} {vb vn vo vm vs vt vf va vw vu vna vrb vrn vro vtr vbk vsd : Int} {vch : Bool} {gt : Int → Int} {gl : Int → Int} {gh : Int → Int} (hn : 0 ≤ vn ∧ vn ≤ 6) : Con l G yX8_startEnds cX8_startEnds 2 none { frames := 0, cells := 0, slots := 0, locals := 0 } [.ref m] [(m, eO 8 [.int (iI vb), .ref aBath, .int (iI vn), .ref aBather, .int (iI vo), .int (iI vm), .ref aMorn, .int (iI vs), .ref aText, .int (iI vt), .int (iI vf), .int (iI va), .long (lI vsd), .int (iI vw), .int (iI vu), .int (iI vna), .int (iI vrb), .ref aRB, .int (iI vrn), .ref aRN, .int (iI vro), .ref aLow, .ref aHigh, .int (iI (pI (vch = true))), .ref aNeeds, .ref aLikes, .ref aHts, .int (iI vtr), .int (iI vbk), .ref aBook, .ref aImg, .ref aKept]), (aBather, eI G 24 gt), (aLow, eI G 6 gl), (aHigh, eI G 6 gh)] (S := (Int → Int) × (Int → Int)) (fun _ => none) (fun u => [(m, eO 8 [.int (iI vb), .ref aBath, .int (iI vn), .ref aBather, .int (iI vo), .int (iI vm), .ref aMorn, .int (iI vs), .ref aText, .int (iI vt), .int (iI vf), .int (iI va), .long (lI vsd), .int (iI vw), .int (iI vu), .int (iI vna), .int (iI vrb), .ref aRB, .int (iI vrn), .ref aRN, .int (iI vro), .ref aLow, .ref aHigh, .int (iI (pI (vch = true))), .ref aNeeds, .ref aLikes, .ref aHts, .int (iI vtr), .int (iI vbk), .ref aBook, .ref aImg, .ref aKept]), (aBather, eI G 24 gt), (aLow, eI G 6 u.1), (aHigh, eI G 6 u.2)]) (fun u => (∀ x, 0 ≤ x → x < vn → u.1 x = gt (x * 4 + 0) ∧ u.2 x = gt (x * 4 + 1)) ∧ (∀ x, vn ≤ x → u.1 x = gl x ∧ u.2 x = gh x)) := by
  refine Con.mk (by decide +kernel) [some (.ref m), none] rfl (Nat.le_of_ble_eq_true rfl) rfl ?_
  intro V M EI EL EV EA
  refine M.iconst (pc := 0) dX8_startEnds_0 ?_
  refine M.istoren (pc := 1) 1 rfl (Nat.le_of_ble_eq_true rfl) rfl dX8_startEnds_1 ?_
  dsimp only [List.set_cons_zero, List.set_cons_succ]
  have L2 : ∀ (fu : Nat) {k : Int} {l2 u2 : Int → Int}, (0 ≤ k ∧ k ≤ vn) → (∀ x, 0 ≤ x → x < k → l2 x = gt (x * 4 + 0) ∧ u2 x = gt (x * 4 + 1)) → (∀ x, k ≤ x → l2 x = gl x ∧ u2 x = gh x) → (vn - k).toNat < fu → V 0 0 2 [(m, eO 8 [.int (iI vb), .ref aBath, .int (iI vn), .ref aBather, .int (iI vo), .int (iI vm), .ref aMorn, .int (iI vs), .ref aText, .int (iI vt), .int (iI vf), .int (iI va), .long (lI vsd), .int (iI vw), .int (iI vu), .int (iI vna), .int (iI vrb), .ref aRB, .int (iI vrn), .ref aRN, .int (iI vro), .ref aLow, .ref aHigh, .int (iI (pI (vch = true))), .ref aNeeds, .ref aLikes, .ref aHts, .int (iI vtr), .int (iI vbk), .ref aBook, .ref aImg, .ref aKept]), (aBather, eI G 24 gt), (aLow, eI G 6 l2), (aHigh, eI G 6 u2)] [some (.ref m), some (.int (iI k))] [] := by
    intro fu
    induction fu with
    | zero => intro k l2 u2 hk hq hq2 hm; exact absurd hm (Nat.not_lt_zero _)
    | succ fu ih2 =>
      intro k l2 u2 hk hq hq2 hm2
      refine M.iloadn (pc := 2) 1 rfl rfl dX8_startEnds_2 ?_
      refine M.aloadn (pc := 3) 0 rfl rfl dX8_startEnds_3 ?_
      refine M.getf (pc := 4) fg_X8_67 0 rfl rfl dX8_startEnds_4 ?_
      refine M.icmp_ge (pc := 7) (tgt := 46) dX8_startEnds_7 (by decide) (by omega) (by omega) (fun c7 => ?_) (fun c7 => ?_)
      · exact EV (_, _) _ _ _ dX8_startEnds_46 rfl (rfl) (rfl) (⟨fun x h0 h1 => hq x h0 (by omega), fun x h0 => hq2 x (by omega)⟩)
      · refine M.aloadn (pc := 10) 0 rfl rfl dX8_startEnds_10 ?_
        refine M.getf (pc := 11) fg_X8_35 0 rfl rfl dX8_startEnds_11 ?_
        refine M.iloadn (pc := 14) 1 rfl rfl dX8_startEnds_14 ?_
        refine M.aloadn (pc := 15) 0 rfl rfl dX8_startEnds_15 ?_
        refine M.getf (pc := 16) fg_X8_13 0 rfl rfl dX8_startEnds_16 ?_
        refine M.iconst (pc := 19) dX8_startEnds_19 ?_
        refine M.iloadn (pc := 20) 1 rfl rfl dX8_startEnds_20 ?_
        refine M.imul (pc := 21) dX8_startEnds_21 ?_
        refine M.ialdx (pc := 22) (k * 4 + 0) (by omega) 1 rfl (by omega) (by omega) dX8_startEnds_22 ?_
        refine M.iast (pc := 23) 2 rfl (by omega) (by omega) dX8_startEnds_23 ?_
        dsimp only [List.set_cons_zero, List.set_cons_succ]
        refine M.aloadn (pc := 24) 0 rfl rfl dX8_startEnds_24 ?_
        refine M.getf (pc := 25) fg_X8_38 0 rfl rfl dX8_startEnds_25 ?_
        refine M.iloadn (pc := 28) 1 rfl rfl dX8_startEnds_28 ?_
        refine M.aloadn (pc := 29) 0 rfl rfl dX8_startEnds_29 ?_
        refine M.getf (pc := 30) fg_X8_13 0 rfl rfl dX8_startEnds_30 ?_
        refine M.iconst (pc := 33) dX8_startEnds_33 ?_
        refine M.iloadn (pc := 34) 1 rfl rfl dX8_startEnds_34 ?_
        refine M.imul (pc := 35) dX8_startEnds_35 ?_
        refine M.iconst (pc := 36) dX8_startEnds_36 ?_
        refine M.iadd (pc := 37) dX8_startEnds_37 ?_
        refine M.ialdx (pc := 38) (k * 4 + 1) (by omega) 1 rfl (by omega) (by omega) dX8_startEnds_38 ?_
        refine M.iast (pc := 39) 3 rfl (by omega) (by omega) dX8_startEnds_39 ?_
        dsimp only [List.set_cons_zero, List.set_cons_succ]
        refine M.iinc (pc := 40) (i := 1) rfl rfl dX8_startEnds_40 ?_
        dsimp only [List.set_cons_zero, List.set_cons_succ]
        refine M.goto (pc := 43) (tgt := 2) dX8_startEnds_43 (by decide) ?_
        exact ih2  (by first | assumption | omega) (by intro x h0 h1; by_cases e : x = k; subst e; rw [upZ_s, upZ_s]; exact ⟨rfl, rfl⟩; rw [upZ_n e, upZ_n e]; exact hq x h0 (by omega)) (by intro x h0; rw [upZ_n (by omega), upZ_n (by omega)]; exact hq2 x (by omega)) (by omega)
  exact L2 _  (by first | assumption | omega) (by intro x _ _; omega) (by intro x _; exact ⟨rfl, rfl⟩) (Nat.lt_succ_self _)
set_option maxHeartbeats 4000000 in
set_option maxRecDepth 100000 in
theorem c_X8_narrow {l : Launch} {G : GT} {m aBath aBather aMorn aText aRB aRN aLow aHigh aNeeds aLikes aHts aBook aImg aKept : Nat} {vb vn vo vm vs vt vf va vw vu vna vrb vrn vro vtr vbk vsd : Int} {vch : Bool} {gb : Int → Int} {gt : Int → Int} {gm : Int → Int} {gl : Int → Int} {gh : Int → Int} {mi : Int} (hn : 0 ≤ vn ∧ vn ≤ 6) (hnb : 0 ≤ vb ∧ vb ≤ 2) (hc : 0 ≤ vm ∧ vm ≤ 12) (hV : HV gb vb) (hT : HVT gt vn) (hM : HM gm vm vb vn) (hRX : RX gl gh) (hm : 0 ≤ mi ∧ mi < vm) (hst : Bx vn (fU gt) (fV gt) gl gh ∨ ∃ j, 0 ≤ j ∧ j < vn ∧ gh j < gl j) : Con l G yX8_narrow cX8_narrow 10 (some .boolean) { frames := 2, cells := 0, slots := 0, locals := 47 } [.ref m, .int (iI mi)] [(m, eO 8 [.int (iI vb), .ref aBath, .int (iI vn), .ref aBather, .int (iI vo), .int (iI vm), .ref aMorn, .int (iI vs), .ref aText, .int (iI vt), .int (iI vf), .int (iI va), .long (lI vsd), .int (iI vw), .int (iI vu), .int (iI vna), .int (iI vrb), .ref aRB, .int (iI vrn), .ref aRN, .int (iI vro), .ref aLow, .ref aHigh, .int (iI (pI (vch = true))), .ref aNeeds, .ref aLikes, .ref aHts, .int (iI vtr), .int (iI vbk), .ref aBook, .ref aImg, .ref aKept]), (aBath, eI G 8 gb), (aBather, eI G 24 gt), (aMorn, eI G 48 gm), (aLow, eI G 6 gl), (aHigh, eI G 6 gh)] (S := Bool × Bool × (Int → Int) × (Int → Int)) (fun u => some (.int (iI (pI (u.1 = true))))) (fun u => [(m, eO 8 [.int (iI vb), .ref aBath, .int (iI vn), .ref aBather, .int (iI vo), .int (iI vm), .ref aMorn, .int (iI vs), .ref aText, .int (iI vt), .int (iI vf), .int (iI va), .long (lI vsd), .int (iI vw), .int (iI vu), .int (iI vna), .int (iI vrb), .ref aRB, .int (iI vrn), .ref aRN, .int (iI vro), .ref aLow, .ref aHigh, .int (iI (pI (u.2.1 = true))), .ref aNeeds, .ref aLikes, .ref aHts, .int (iI vtr), .int (iI vbk), .ref aBook, .ref aImg, .ref aKept]), (aBath, eI G 8 gb), (aBather, eI G 24 gt), (aMorn, eI G 48 gm), (aLow, eI G 6 u.2.2.1), (aHigh, eI G 6 u.2.2.2)]) (fun u => (u.1 = false ∧ Bad (mS gm) (mL gb gm) (mG gb gm) mi ∧ u.2.1 = vch ∧ u.2.2.1 = gl ∧ u.2.2.2 = gh) ∨ (u.1 = true ∧ ¬ Bad (mS gm) (mL gb gm) (mG gb gm) mi ∧ RX u.2.2.1 u.2.2.2 ∧ (∀ j, 0 ≤ j → j < vn → gl j ≤ u.2.2.1 j ∧ u.2.2.2 j ≤ gh j) ∧ (NG vn vm (fU gt) (fV gt) (mS gm) (mL gb gm) (mG gb gm) mi vch gl gh vn u.2.1 u.2.2.1 u.2.2.2 ∨ NB vn vm (fU gt) (fV gt) (mS gm) (mL gb gm) (mG gb gm) mi gl gh u.2.2.1 u.2.2.2))) := by
  refine Con.mk (by decide +kernel) [some (.ref m), some (.int (iI mi)), none, none, none, none, none, none, none, none] rfl (Nat.le_of_ble_eq_true rfl) rfl ?_
  intro V M EI EL EV EA
  obtain ⟨d1, d2, d3⟩ := mG_b hV hM hm.1 hm.2
  obtain ⟨a1, a2, a3, a4⟩ := hM mi hm.1 hm.2
  have hp6 := p2_6 hn.2
  have L85 : (0 ≤ mG gb gm mi) → (¬ Bad (mS gm) (mL gb gm) (mG gb gm) mi) → V 0 0 85 [(m, eO 8 [.int (iI vb), .ref aBath, .int (iI vn), .ref aBather, .int (iI vo), .int (iI vm), .ref aMorn, .int (iI vs), .ref aText, .int (iI vt), .int (iI vf), .int (iI va), .long (lI vsd), .int (iI vw), .int (iI vu), .int (iI vna), .int (iI vrb), .ref aRB, .int (iI vrn), .ref aRN, .int (iI vro), .ref aLow, .ref aHigh, .int (iI (pI (vch = true))), .ref aNeeds, .ref aLikes, .ref aHts, .int (iI vtr), .int (iI vbk), .ref aBook, .ref aImg, .ref aKept]), (aBath, eI G 8 gb), (aBather, eI G 24 gt), (aMorn, eI G 48 gm), (aLow, eI G 6 gl), (aHigh, eI G 6 gh)] [some (.ref m), some (.int (iI mi)), none, some (.int (iI (mS gm mi))), some (.int (iI (mG gb gm mi))), some (.int (iI (mL gb gm mi))), none, none, none, none] [] := by
    intro  hg0 hnb2
    refine M.iconst (pc := 85) dX8_narrow_85 ?_
    refine M.istore (pc := 86) (i := 6) (Nat.le_of_ble_eq_true rfl) rfl dX8_narrow_86 ?_
    dsimp only [List.set_cons_zero, List.set_cons_succ]
    have L88 : ∀ (fu : Nat) {k : Int} {ch : Bool} {l u : Int → Int}, (0 ≤ k ∧ k ≤ vn) → (RX l u) → (∀ j, 0 ≤ j → j < vn → gl j ≤ l j ∧ u j ≤ gh j) → (NG vn vm (fU gt) (fV gt) (mS gm) (mL gb gm) (mG gb gm) mi vch gl gh (k) ch l u ∨ NB vn vm (fU gt) (fV gt) (mS gm) (mL gb gm) (mG gb gm) mi gl gh l u) → (vn - k).toNat < fu → V 0 0 88 [(m, eO 8 [.int (iI vb), .ref aBath, .int (iI vn), .ref aBather, .int (iI vo), .int (iI vm), .ref aMorn, .int (iI vs), .ref aText, .int (iI vt), .int (iI vf), .int (iI va), .long (lI vsd), .int (iI vw), .int (iI vu), .int (iI vna), .int (iI vrb), .ref aRB, .int (iI vrn), .ref aRN, .int (iI vro), .ref aLow, .ref aHigh, .int (iI (pI (ch = true))), .ref aNeeds, .ref aLikes, .ref aHts, .int (iI vtr), .int (iI vbk), .ref aBook, .ref aImg, .ref aKept]), (aBath, eI G 8 gb), (aBather, eI G 24 gt), (aMorn, eI G 48 gm), (aLow, eI G 6 l), (aHigh, eI G 6 u)] [some (.ref m), some (.int (iI mi)), none, some (.int (iI (mS gm mi))), some (.int (iI (mG gb gm mi))), some (.int (iI (mL gb gm mi))), some (.int (iI k)), none, none, none] [] := by
      intro fu
      induction fu with
      | zero => intro k ch l u hk hr hmo hmd hm; exact absurd hm (Nat.not_lt_zero _)
      | succ fu ih88 =>
        intro k ch l u hk hr hmo hmd hm88
        refine M.iload (pc := 88) (i := 6) rfl dX8_narrow_88 ?_
        refine M.aloadn (pc := 90) 0 rfl rfl dX8_narrow_90 ?_
        refine M.getf (pc := 91) fg_X8_67 0 rfl rfl dX8_narrow_91 ?_
        refine M.icmp_ge (pc := 94) (tgt := 320) dX8_narrow_94 (by decide) (by omega) (by omega) (fun c94 => ?_) (fun c94 => ?_)
        · refine M.iconst (pc := 320) dX8_narrow_320 ?_
          exact EI (true, ch, l, u) _ _ _ _ dX8_narrow_321 (Or.inr ⟨rfl, by first | exact Or.inl rfl | exact Or.inr rfl | exact pI_01 _⟩) (eqI (pI_t rfl)) (rfl) (Or.inr ⟨rfl, hnb2, hr, hmo, (show k = vn by omega) ▸ hmd⟩)
        · have L314 : ∀ {ch3 : Bool} {l3 u3 : Int → Int}, (RX l3 u3) → (∀ j, 0 ≤ j → j < vn → gl j ≤ l3 j ∧ u3 j ≤ gh j) → (NG vn vm (fU gt) (fV gt) (mS gm) (mL gb gm) (mG gb gm) mi vch gl gh (k + 1) ch3 l3 u3 ∨ NB vn vm (fU gt) (fV gt) (mS gm) (mL gb gm) (mG gb gm) mi gl gh l3 u3) → V 0 0 314 [(m, eO 8 [.int (iI vb), .ref aBath, .int (iI vn), .ref aBather, .int (iI vo), .int (iI vm), .ref aMorn, .int (iI vs), .ref aText, .int (iI vt), .int (iI vf), .int (iI va), .long (lI vsd), .int (iI vw), .int (iI vu), .int (iI vna), .int (iI vrb), .ref aRB, .int (iI vrn), .ref aRN, .int (iI vro), .ref aLow, .ref aHigh, .int (iI (pI (ch3 = true))), .ref aNeeds, .ref aLikes, .ref aHts, .int (iI vtr), .int (iI vbk), .ref aBook, .ref aImg, .ref aKept]), (aBath, eI G 8 gb), (aBather, eI G 24 gt), (aMorn, eI G 48 gm), (aLow, eI G 6 l3), (aHigh, eI G 6 u3)] [some (.ref m), some (.int (iI mi)), none, some (.int (iI (mS gm mi))), some (.int (iI (mG gb gm mi))), some (.int (iI (mL gb gm mi))), some (.int (iI k)), none, none, none] [] := by
            intro ch3 l3 u3 hr3 hmo3 hmd3
            refine M.iinc (pc := 314) (i := 6) rfl rfl dX8_narrow_314 ?_
            dsimp only [List.set_cons_zero, List.set_cons_succ]
            refine M.goto (pc := 317) (tgt := 88) dX8_narrow_317 (by decide) ?_
            exact ih88  (by first | assumption | omega) (by first | assumption | omega) (by first | assumption | omega) (by assumption) (by omega)
          refine M.iloadn (pc := 97) 3 rfl rfl dX8_narrow_97 ?_
          refine M.iload (pc := 98) (i := 6) rfl dX8_narrow_98 ?_
          refine M.pS (pc := 100) (c_X8_has  (by first | assumption | omega) (by first | assumption | omega) (by first | assumption | omega) (by first | assumption | omega)) ms_X8_191 [] rfl rfl rfl rfl (Nat.le_of_ble_eq_true rfl) rfl ⟨(Nat.le_of_ble_eq_true rfl), (Nat.le_of_ble_eq_true rfl)⟩ ⟨(Nat.le_of_ble_eq_true rfl), (Nat.le_of_ble_eq_true rfl)⟩ rfl dX8_narrow_100 ?_
          refine M.if_eqP (pc := 103) (tgt := 314) dX8_narrow_103 (by decide) (fun c103 => ?_) (fun c103 => ?_)
          · exact L314  (by first | assumption | omega) (by first | assumption | omega) (by exact hmd.imp (fun z => z.skip c103) id)
          · have hkn : k < vn := by omega
            refine M.iconst (pc := 106) dX8_narrow_106 ?_
            refine M.istore (pc := 107) (i := 7) (Nat.le_of_ble_eq_true rfl) rfl dX8_narrow_107 ?_
            dsimp only [List.set_cons_zero, List.set_cons_succ]
            refine M.iconst (pc := 109) dX8_narrow_109 ?_
            refine M.istore (pc := 110) (i := 8) (Nat.le_of_ble_eq_true rfl) rfl dX8_narrow_110 ?_
            dsimp only [List.set_cons_zero, List.set_cons_succ]
            refine M.iconst (pc := 112) dX8_narrow_112 ?_
            refine M.istore (pc := 113) (i := 9) (Nat.le_of_ble_eq_true rfl) rfl dX8_narrow_113 ?_
            dsimp only [List.set_cons_zero, List.set_cons_succ]
            have L115 : ∀ (fu : Nat) {j lows highs : Int}, (0 ≤ j ∧ j ≤ vn) → (lows = sumT (exF l k) (mS gm mi) j.toNat) → (highs = sumT (exF u k) (mS gm mi) j.toNat) → (vn - j).toNat < fu → V 0 0 115 [(m, eO 8 [.int (iI vb), .ref aBath, .int (iI vn), .ref aBather, .int (iI vo), .int (iI vm), .ref aMorn, .int (iI vs), .ref aText, .int (iI vt), .int (iI vf), .int (iI va), .long (lI vsd), .int (iI vw), .int (iI vu), .int (iI vna), .int (iI vrb), .ref aRB, .int (iI vrn), .ref aRN, .int (iI vro), .ref aLow, .ref aHigh, .int (iI (pI (ch = true))), .ref aNeeds, .ref aLikes, .ref aHts, .int (iI vtr), .int (iI vbk), .ref aBook, .ref aImg, .ref aKept]), (aBath, eI G 8 gb), (aBather, eI G 24 gt), (aMorn, eI G 48 gm), (aLow, eI G 6 l), (aHigh, eI G 6 u)] [some (.ref m), some (.int (iI mi)), none, some (.int (iI (mS gm mi))), some (.int (iI (mG gb gm mi))), some (.int (iI (mL gb gm mi))), some (.int (iI k)), some (.int (iI lows)), some (.int (iI highs)), some (.int (iI j))] [] := by
              intro fu
              induction fu with
              | zero => intro j lows highs hj hlows hhighs hm; exact absurd hm (Nat.not_lt_zero _)
              | succ fu ih115 =>
                intro j lows highs hj hlows hhighs hm115
                refine M.iload (pc := 115) (i := 9) rfl dX8_narrow_115 ?_
                refine M.aloadn (pc := 117) 0 rfl rfl dX8_narrow_117 ?_
                refine M.getf (pc := 118) fg_X8_67 0 rfl rfl dX8_narrow_118 ?_
                refine M.icmp_ge (pc := 121) (tgt := 194) dX8_narrow_121 (by decide) (by omega) (by omega) (fun c121 => ?_) (fun c121 => ?_)
                · have hl6 : lows = sumT l (mS gm mi) 6 - l k := by
                    rw [hlows, show j.toNat = vn.toNat by omega, sumT_exF hk.1 c103 vn.toNat (by omega), sumT_6 d1.1 d1.2 hn.1 hn.2]
                  have hh6 : highs = sumT u (mS gm mi) 6 - u k := by
                    rw [hhighs, show j.toNat = vn.toNat by omega, sumT_exF hk.1 c103 vn.toNat (by omega), sumT_6 d1.1 d1.2 hn.1 hn.2]
                  obtain ⟨dl, dl1, dl2, dl3⟩ := iI_wrap (mL gb gm mi - highs)
                  obtain ⟨dh, dh1, dh2, dh3⟩ := iI_wrap (mG gb gm mi - lows)
                  have hrk := hr k hk.1 (by omega)
                  refine M.aloadn (pc := 194) 0 rfl rfl dX8_narrow_194 ?_
                  have L237 : ∀ {ch2 : Bool}, ((ch2 = true ∧ (ch = true ∨ l k < dl ∨ dh < u k)) ∨ (ch2 = false ∧ ch = false ∧ dl ≤ l k ∧ u k ≤ dh)) → V 0 0 237 [(m, eO 8 [.int (iI vb), .ref aBath, .int (iI vn), .ref aBather, .int (iI vo), .int (iI vm), .ref aMorn, .int (iI vs), .ref aText, .int (iI vt), .int (iI vf), .int (iI va), .long (lI vsd), .int (iI vw), .int (iI vu), .int (iI vna), .int (iI vrb), .ref aRB, .int (iI vrn), .ref aRN, .int (iI vro), .ref aLow, .ref aHigh, .int (iI (pI (ch = true))), .ref aNeeds, .ref aLikes, .ref aHts, .int (iI vtr), .int (iI vbk), .ref aBook, .ref aImg, .ref aKept]), (aBath, eI G 8 gb), (aBather, eI G 24 gt), (aMorn, eI G 48 gm), (aLow, eI G 6 l), (aHigh, eI G 6 u)] [some (.ref m), some (.int (iI mi)), none, some (.int (iI (mS gm mi))), some (.int (iI (mG gb gm mi))), some (.int (iI (mL gb gm mi))), some (.int (iI k)), some (.int (iI lows)), some (.int (iI highs)), none] [.int (iI (pI (ch2 = true))), .ref m] := by
                    intro ch2 hch2
                    refine M.putfZ (pc := 237) (ch2) (by rfl) fp_X8_217 0 rfl (Nat.le_of_ble_eq_true rfl) dX8_narrow_237 ?_
                    dsimp only [List.set_cons_zero, List.set_cons_succ]
                    have L276 : ∀ {x : Int}, (x = max (l k) dl) → V 0 0 276 [(m, eO 8 [.int (iI vb), .ref aBath, .int (iI vn), .ref aBather, .int (iI vo), .int (iI vm), .ref aMorn, .int (iI vs), .ref aText, .int (iI vt), .int (iI vf), .int (iI va), .long (lI vsd), .int (iI vw), .int (iI vu), .int (iI vna), .int (iI vrb), .ref aRB, .int (iI vrn), .ref aRN, .int (iI vro), .ref aLow, .ref aHigh, .int (iI (pI (ch2 = true))), .ref aNeeds, .ref aLikes, .ref aHts, .int (iI vtr), .int (iI vbk), .ref aBook, .ref aImg, .ref aKept]), (aBath, eI G 8 gb), (aBather, eI G 24 gt), (aMorn, eI G 48 gm), (aLow, eI G 6 l), (aHigh, eI G 6 u)] [some (.ref m), some (.int (iI mi)), none, some (.int (iI (mS gm mi))), some (.int (iI (mG gb gm mi))), some (.int (iI (mL gb gm mi))), some (.int (iI k)), some (.int (iI lows)), some (.int (iI highs)), none] [.int (iI x), .int (iI k), .ref aLow] := by
                      intro x hx
                      refine M.iast (pc := 276) 4 rfl (by omega) (by omega) dX8_narrow_276 ?_
                      dsimp only [List.set_cons_zero, List.set_cons_succ]
                      have L313 : ∀ {y : Int}, (y = min (u k) dh) → V 0 0 313 [(m, eO 8 [.int (iI vb), .ref aBath, .int (iI vn), .ref aBather, .int (iI vo), .int (iI vm), .ref aMorn, .int (iI vs), .ref aText, .int (iI vt), .int (iI vf), .int (iI va), .long (lI vsd), .int (iI vw), .int (iI vu), .int (iI vna), .int (iI vrb), .ref aRB, .int (iI vrn), .ref aRN, .int (iI vro), .ref aLow, .ref aHigh, .int (iI (pI (ch2 = true))), .ref aNeeds, .ref aLikes, .ref aHts, .int (iI vtr), .int (iI vbk), .ref aBook, .ref aImg, .ref aKept]), (aBath, eI G 8 gb), (aBather, eI G 24 gt), (aMorn, eI G 48 gm), (aLow, eI G 6 (upZ l k x)), (aHigh, eI G 6 u)] [some (.ref m), some (.int (iI mi)), none, some (.int (iI (mS gm mi))), some (.int (iI (mG gb gm mi))), some (.int (iI (mL gb gm mi))), some (.int (iI k)), some (.int (iI lows)), some (.int (iI highs)), none] [.int (iI y), .int (iI k), .ref aHigh] := by
                        intro y hy
                        refine M.iast (pc := 313) 5 rfl (by omega) (by omega) dX8_narrow_313 ?_
                        dsimp only [List.set_cons_zero, List.set_cons_succ]
                        refine M.forget 7 ?_
                        dsimp only [List.set_cons_zero, List.set_cons_succ]
                        refine M.forget 8 ?_
                        dsimp only [List.set_cons_zero, List.set_cons_succ]
                        have hrx : RX (upZ l k x) (upZ u k y) := hr.up (by omega) (by omega)
                        have hmx : ∀ j, 0 ≤ j → j < vn → gl j ≤ upZ l k x j ∧ upZ u k y j ≤ gh j := fun i h0 h1 => by
                          have q := hmo i h0 h1
                          by_cases e : i = k
                          · subst e; rw [upZ_s, upZ_s]; omega
                          · rw [upZ_n e, upZ_n e]; exact q
                        have hmdx : NG vn vm (fU gt) (fV gt) (mS gm) (mL gb gm) (mG gb gm) mi vch gl gh (k + 1) ch2 (upZ l k x) (upZ u k y) ∨ NB vn vm (fU gt) (fV gt) (mS gm) (mL gb gm) (mG gb gm) mi gl gh (upZ l k x) (upZ u k y) := by
                          rcases hmd with z | z
                          · have hbk := z.1 k hk.1 hkn
                            have hTk := hT k hk.1 hkn
                            have hbu : fV gt k = gt (k * 4 + 1) := rfl
                            have hbl : fU gt k = gt (k * 4 + 0) := rfl
                            have hin : ∀ i : Nat, i < 6 → tb (mS gm mi) (i : Int) = true → (i : Int) < vn := fun i hi hq => by
                              rcases (by omega : (i : Int) < vn ∨ vn ≤ (i : Int)) with w | w
                              · exact w
                              · rw [tb_lt d1.1 d1.2 w hn.1] at hq
                                exact absurd hq (by decide)
                            have hsl := sumT_b (f := l) (S := mS gm mi) (A := 0) (B := 999) (by omega) (by omega) 6 (fun i hi ht => by
                              have w1 := z.1 i (by omega) (hin i hi ht)
                              have w2 := hT i (by omega) (hin i hi ht)
                              have w3 : fV gt (i : Int) = gt ((i : Int) * 4 + 1) := rfl
                              have w4 : fU gt (i : Int) = gt ((i : Int) * 4 + 0) := rfl
                              omega)
                            have hsu := sumT_b (f := u) (S := mS gm mi) (A := 0) (B := 999) (by omega) (by omega) 6 (fun i hi ht => by
                              have w1 := z.1 i (by omega) (hin i hi ht)
                              have w2 := hT i (by omega) (hin i hi ht)
                              have w3 : fV gt (i : Int) = gt ((i : Int) * 4 + 1) := rfl
                              have w4 : fU gt (i : Int) = gt ((i : Int) * 4 + 0) := rfl
                              omega)
                            have e1 := dl3 (by omega)
                            have e2 := dh3 (by omega)
                            exact z.step hm ⟨hk.1, hkn⟩ hn.2 c103 d1 (by rw [hx, e1, hh6]) (by rw [hy, e2, hl6]) (by
                              rcases hch2 with ⟨q1, q2 | q2 | q2⟩ | ⟨q1, q2, q3, q4⟩
                              · exact Or.inl ⟨q1, Or.inl q2⟩
                              · exact Or.inl ⟨q1, Or.inr (Or.inl (by omega))⟩
                              · exact Or.inl ⟨q1, Or.inr (Or.inr (by omega))⟩
                              · exact Or.inr ⟨q1, q2, by omega, by omega⟩)
                          · exact Or.inr (z.step (by omega) (by omega))
                        exact L314  (by exact hrx) (by exact hmx) (by exact hmdx)
                      refine M.aloadn (pc := 277) 0 rfl rfl dX8_narrow_277 ?_
                      refine M.getf (pc := 278) fg_X8_38 0 rfl rfl dX8_narrow_278 ?_
                      refine M.iload (pc := 281) (i := 6) rfl dX8_narrow_281 ?_
                      refine M.iload (pc := 283) (i := 4) rfl dX8_narrow_283 ?_
                      refine M.iload (pc := 285) (i := 7) rfl dX8_narrow_285 ?_
                      refine M.isub (pc := 287) dX8_narrow_287 ?_
                      rw [dh2]
                      refine M.aloadn (pc := 288) 0 rfl rfl dX8_narrow_288 ?_
                      refine M.getf (pc := 289) fg_X8_38 0 rfl rfl dX8_narrow_289 ?_
                      refine M.iload (pc := 292) (i := 6) rfl dX8_narrow_292 ?_
                      refine M.iald (pc := 294) 5 rfl (by omega) (by omega) dX8_narrow_294 ?_
                      refine M.icmp_ge (pc := 295) (tgt := 306) dX8_narrow_295 (by decide) (by omega) (by exact (hr k hk.1 (by omega)).2) (fun c295 => ?_) (fun c295 => ?_)
                      · refine M.aloadn (pc := 306) 0 rfl rfl dX8_narrow_306 ?_
                        refine M.getf (pc := 307) fg_X8_38 0 rfl rfl dX8_narrow_307 ?_
                        refine M.iload (pc := 310) (i := 6) rfl dX8_narrow_310 ?_
                        refine M.iald (pc := 312) 5 rfl (by omega) (by omega) dX8_narrow_312 ?_
                        exact L313  (by omega)
                      · refine M.iload (pc := 298) (i := 4) rfl dX8_narrow_298 ?_
                        refine M.iload (pc := 300) (i := 7) rfl dX8_narrow_300 ?_
                        refine M.isub (pc := 302) dX8_narrow_302 ?_
                        rw [dh2]
                        refine M.goto (pc := 303) (tgt := 313) dX8_narrow_303 (by decide) ?_
                        exact L313  (by omega)
                    refine M.aloadn (pc := 240) 0 rfl rfl dX8_narrow_240 ?_
                    refine M.getf (pc := 241) fg_X8_35 0 rfl rfl dX8_narrow_241 ?_
                    refine M.iload (pc := 244) (i := 6) rfl dX8_narrow_244 ?_
                    refine M.iload (pc := 246) (i := 5) rfl dX8_narrow_246 ?_
                    refine M.iload (pc := 248) (i := 8) rfl dX8_narrow_248 ?_
                    refine M.isub (pc := 250) dX8_narrow_250 ?_
                    rw [dl2]
                    refine M.aloadn (pc := 251) 0 rfl rfl dX8_narrow_251 ?_
                    refine M.getf (pc := 252) fg_X8_35 0 rfl rfl dX8_narrow_252 ?_
                    refine M.iload (pc := 255) (i := 6) rfl dX8_narrow_255 ?_
                    refine M.iald (pc := 257) 4 rfl (by omega) (by omega) dX8_narrow_257 ?_
                    refine M.icmp_le (pc := 258) (tgt := 269) dX8_narrow_258 (by decide) (by omega) (by exact (hr k hk.1 (by omega)).1) (fun c258 => ?_) (fun c258 => ?_)
                    · refine M.aloadn (pc := 269) 0 rfl rfl dX8_narrow_269 ?_
                      refine M.getf (pc := 270) fg_X8_35 0 rfl rfl dX8_narrow_270 ?_
                      refine M.iload (pc := 273) (i := 6) rfl dX8_narrow_273 ?_
                      refine M.iald (pc := 275) 4 rfl (by omega) (by omega) dX8_narrow_275 ?_
                      exact L276  (by omega)
                    · refine M.iload (pc := 261) (i := 5) rfl dX8_narrow_261 ?_
                      refine M.iload (pc := 263) (i := 8) rfl dX8_narrow_263 ?_
                      refine M.isub (pc := 265) dX8_narrow_265 ?_
                      rw [dl2]
                      refine M.goto (pc := 266) (tgt := 276) dX8_narrow_266 (by decide) ?_
                      exact L276  (by omega)
                  refine M.aloadn (pc := 195) 0 rfl rfl dX8_narrow_195 ?_
                  refine M.getf (pc := 196) fg_X8_217 0 rfl rfl dX8_narrow_196 ?_
                  refine M.if_neP (pc := 199) (tgt := 232) dX8_narrow_199 (by decide) (fun c199 => ?_) (fun c199 => ?_)
                  · refine M.iconst (pc := 232) dX8_narrow_232 ?_
                    refine M.goto (pc := 233) (tgt := 237) dX8_narrow_233 (by decide) ?_
                    refine M.forget 9 ?_
                    dsimp only [List.set_cons_zero, List.set_cons_succ]
                    exact L237 (ch2 := true) (by exact Or.inl ⟨rfl, by first | exact Or.inl c199 | exact Or.inr (Or.inl (by omega)) | exact Or.inr (Or.inr (by omega))⟩)
                  · refine M.iload (pc := 202) (i := 5) rfl dX8_narrow_202 ?_
                    refine M.iload (pc := 204) (i := 8) rfl dX8_narrow_204 ?_
                    refine M.isub (pc := 206) dX8_narrow_206 ?_
                    rw [dl2]
                    refine M.aloadn (pc := 207) 0 rfl rfl dX8_narrow_207 ?_
                    refine M.getf (pc := 208) fg_X8_35 0 rfl rfl dX8_narrow_208 ?_
                    refine M.iload (pc := 211) (i := 6) rfl dX8_narrow_211 ?_
                    refine M.iald (pc := 213) 4 rfl (by omega) (by omega) dX8_narrow_213 ?_
                    refine M.icmp_gt (pc := 214) (tgt := 232) dX8_narrow_214 (by decide) (by omega) (by exact (hr k hk.1 (by omega)).1) (fun c214 => ?_) (fun c214 => ?_)
                    · refine M.iconst (pc := 232) dX8_narrow_232 ?_
                      refine M.goto (pc := 233) (tgt := 237) dX8_narrow_233 (by decide) ?_
                      refine M.forget 9 ?_
                      dsimp only [List.set_cons_zero, List.set_cons_succ]
                      exact L237 (ch2 := true) (by exact Or.inl ⟨rfl, by first | exact Or.inl c199 | exact Or.inr (Or.inl (by omega)) | exact Or.inr (Or.inr (by omega))⟩)
                    · refine M.iload (pc := 217) (i := 4) rfl dX8_narrow_217 ?_
                      refine M.iload (pc := 219) (i := 7) rfl dX8_narrow_219 ?_
                      refine M.isub (pc := 221) dX8_narrow_221 ?_
                      rw [dh2]
                      refine M.aloadn (pc := 222) 0 rfl rfl dX8_narrow_222 ?_
                      refine M.getf (pc := 223) fg_X8_38 0 rfl rfl dX8_narrow_223 ?_
                      refine M.iload (pc := 226) (i := 6) rfl dX8_narrow_226 ?_
                      refine M.iald (pc := 228) 5 rfl (by omega) (by omega) dX8_narrow_228 ?_
                      refine M.icmp_ge (pc := 229) (tgt := 236) dX8_narrow_229 (by decide) (by omega) (by exact (hr k hk.1 (by omega)).2) (fun c229 => ?_) (fun c229 => ?_)
                      · refine M.iconst (pc := 236) dX8_narrow_236 ?_
                        refine M.forget 9 ?_
                        dsimp only [List.set_cons_zero, List.set_cons_succ]
                        exact L237 (ch2 := false) (by exact Or.inr ⟨rfl, by simpa using c199, by omega, by omega⟩)
                      · refine M.iconst (pc := 232) dX8_narrow_232 ?_
                        refine M.goto (pc := 233) (tgt := 237) dX8_narrow_233 (by decide) ?_
                        refine M.forget 9 ?_
                        dsimp only [List.set_cons_zero, List.set_cons_succ]
                        exact L237 (ch2 := true) (by exact Or.inl ⟨rfl, by first | exact Or.inl c199 | exact Or.inr (Or.inl (by omega)) | exact Or.inr (Or.inr (by omega))⟩)
                · refine M.iload (pc := 124) (i := 7) rfl dX8_narrow_124 ?_
                  refine M.iloadn (pc := 126) 3 rfl rfl dX8_narrow_126 ?_
                  refine M.iload (pc := 127) (i := 9) rfl dX8_narrow_127 ?_
                  refine M.pS (pc := 129) (c_X8_has  (by first | assumption | omega) (by first | assumption | omega) (by first | assumption | omega) (by first | assumption | omega)) ms_X8_191 [] rfl rfl rfl rfl (Nat.le_of_ble_eq_true rfl) rfl ⟨(Nat.le_of_ble_eq_true rfl), (Nat.le_of_ble_eq_true rfl)⟩ ⟨(Nat.le_of_ble_eq_true rfl), (Nat.le_of_ble_eq_true rfl)⟩ rfl dX8_narrow_129 ?_
                  refine M.if_eqP (pc := 132) (tgt := 152) dX8_narrow_132 (by decide) (fun c132 => ?_) (fun c132 => ?_)
                  · refine M.iconst (pc := 152) dX8_narrow_152 ?_
                    refine M.iadd (pc := 153) dX8_narrow_153 ?_
                    refine M.istore (pc := 154) (i := 7) (Nat.le_of_ble_eq_true rfl) rfl dX8_narrow_154 ?_
                    dsimp only [List.set_cons_zero, List.set_cons_succ]
                    refine M.iload (pc := 156) (i := 8) rfl dX8_narrow_156 ?_
                    refine M.iloadn (pc := 158) 3 rfl rfl dX8_narrow_158 ?_
                    refine M.iload (pc := 159) (i := 9) rfl dX8_narrow_159 ?_
                    refine M.pS (pc := 161) (c_X8_has  (by first | assumption | omega) (by first | assumption | omega) (by first | assumption | omega) (by first | assumption | omega)) ms_X8_191 [] rfl rfl rfl rfl (Nat.le_of_ble_eq_true rfl) rfl ⟨(Nat.le_of_ble_eq_true rfl), (Nat.le_of_ble_eq_true rfl)⟩ ⟨(Nat.le_of_ble_eq_true rfl), (Nat.le_of_ble_eq_true rfl)⟩ rfl dX8_narrow_161 ?_
                    refine M.if_eqP (pc := 164) (tgt := 184) dX8_narrow_164 (by decide) (fun c164 => ?_) (fun c164 => ?_)
                    · refine M.iconst (pc := 184) dX8_narrow_184 ?_
                      refine M.iadd (pc := 185) dX8_narrow_185 ?_
                      refine M.istore (pc := 186) (i := 8) (Nat.le_of_ble_eq_true rfl) rfl dX8_narrow_186 ?_
                      dsimp only [List.set_cons_zero, List.set_cons_succ]
                      refine M.iinc (pc := 188) (i := 9) rfl rfl dX8_narrow_188 ?_
                      dsimp only [List.set_cons_zero, List.set_cons_succ]
                      refine M.goto (pc := 191) (tgt := 115) dX8_narrow_191 (by decide) ?_
                      exact ih115  (by first | assumption | omega) (by rw [sumT_s _ _ hj.1]; simp_all [exF]) (by rw [sumT_s _ _ hj.1]; simp_all [exF]) (by omega)
                    · refine M.iload (pc := 167) (i := 9) rfl dX8_narrow_167 ?_
                      refine M.iload (pc := 169) (i := 6) rfl dX8_narrow_169 ?_
                      refine M.icmp_eq (pc := 171) (tgt := 184) dX8_narrow_171 (by decide) (by omega) (by omega) (fun c171 => ?_) (fun c171 => ?_)
                      · refine M.iconst (pc := 184) dX8_narrow_184 ?_
                        refine M.iadd (pc := 185) dX8_narrow_185 ?_
                        refine M.istore (pc := 186) (i := 8) (Nat.le_of_ble_eq_true rfl) rfl dX8_narrow_186 ?_
                        dsimp only [List.set_cons_zero, List.set_cons_succ]
                        refine M.iinc (pc := 188) (i := 9) rfl rfl dX8_narrow_188 ?_
                        dsimp only [List.set_cons_zero, List.set_cons_succ]
                        refine M.goto (pc := 191) (tgt := 115) dX8_narrow_191 (by decide) ?_
                        exact ih115  (by first | assumption | omega) (by rw [sumT_s _ _ hj.1]; simp_all [exF]) (by rw [sumT_s _ _ hj.1]; simp_all [exF]) (by omega)
                      · refine M.aloadn (pc := 174) 0 rfl rfl dX8_narrow_174 ?_
                        refine M.getf (pc := 175) fg_X8_38 0 rfl rfl dX8_narrow_175 ?_
                        refine M.iload (pc := 178) (i := 9) rfl dX8_narrow_178 ?_
                        refine M.iald (pc := 180) 5 rfl (by omega) (by omega) dX8_narrow_180 ?_
                        refine M.goto (pc := 181) (tgt := 185) dX8_narrow_181 (by decide) ?_
                        refine M.iadd (pc := 185) dX8_narrow_185 ?_
                        refine M.istore (pc := 186) (i := 8) (Nat.le_of_ble_eq_true rfl) rfl dX8_narrow_186 ?_
                        dsimp only [List.set_cons_zero, List.set_cons_succ]
                        refine M.iinc (pc := 188) (i := 9) rfl rfl dX8_narrow_188 ?_
                        dsimp only [List.set_cons_zero, List.set_cons_succ]
                        refine M.goto (pc := 191) (tgt := 115) dX8_narrow_191 (by decide) ?_
                        exact ih115  (by first | assumption | omega) (by rw [sumT_s _ _ hj.1]; simp_all [exF]) (by rw [sumT_s _ _ hj.1]; simp_all [exF]) (by omega)
                  · refine M.iload (pc := 135) (i := 9) rfl dX8_narrow_135 ?_
                    refine M.iload (pc := 137) (i := 6) rfl dX8_narrow_137 ?_
                    refine M.icmp_eq (pc := 139) (tgt := 152) dX8_narrow_139 (by decide) (by omega) (by omega) (fun c139 => ?_) (fun c139 => ?_)
                    · refine M.iconst (pc := 152) dX8_narrow_152 ?_
                      refine M.iadd (pc := 153) dX8_narrow_153 ?_
                      refine M.istore (pc := 154) (i := 7) (Nat.le_of_ble_eq_true rfl) rfl dX8_narrow_154 ?_
                      dsimp only [List.set_cons_zero, List.set_cons_succ]
                      refine M.iload (pc := 156) (i := 8) rfl dX8_narrow_156 ?_
                      refine M.iloadn (pc := 158) 3 rfl rfl dX8_narrow_158 ?_
                      refine M.iload (pc := 159) (i := 9) rfl dX8_narrow_159 ?_
                      refine M.pS (pc := 161) (c_X8_has  (by first | assumption | omega) (by first | assumption | omega) (by first | assumption | omega) (by first | assumption | omega)) ms_X8_191 [] rfl rfl rfl rfl (Nat.le_of_ble_eq_true rfl) rfl ⟨(Nat.le_of_ble_eq_true rfl), (Nat.le_of_ble_eq_true rfl)⟩ ⟨(Nat.le_of_ble_eq_true rfl), (Nat.le_of_ble_eq_true rfl)⟩ rfl dX8_narrow_161 ?_
                      refine M.if_eqP (pc := 164) (tgt := 184) dX8_narrow_164 (by decide) (fun c164 => ?_) (fun c164 => ?_)
                      · refine M.iconst (pc := 184) dX8_narrow_184 ?_
                        refine M.iadd (pc := 185) dX8_narrow_185 ?_
                        refine M.istore (pc := 186) (i := 8) (Nat.le_of_ble_eq_true rfl) rfl dX8_narrow_186 ?_
                        dsimp only [List.set_cons_zero, List.set_cons_succ]
                        refine M.iinc (pc := 188) (i := 9) rfl rfl dX8_narrow_188 ?_
                        dsimp only [List.set_cons_zero, List.set_cons_succ]
                        refine M.goto (pc := 191) (tgt := 115) dX8_narrow_191 (by decide) ?_
                        exact ih115  (by first | assumption | omega) (by rw [sumT_s _ _ hj.1]; simp_all [exF]) (by rw [sumT_s _ _ hj.1]; simp_all [exF]) (by omega)
                      · refine M.iload (pc := 167) (i := 9) rfl dX8_narrow_167 ?_
                        refine M.iload (pc := 169) (i := 6) rfl dX8_narrow_169 ?_
                        refine M.icmp_eq (pc := 171) (tgt := 184) dX8_narrow_171 (by decide) (by omega) (by omega) (fun c171 => ?_) (fun c171 => ?_)
                        · refine M.iconst (pc := 184) dX8_narrow_184 ?_
                          refine M.iadd (pc := 185) dX8_narrow_185 ?_
                          refine M.istore (pc := 186) (i := 8) (Nat.le_of_ble_eq_true rfl) rfl dX8_narrow_186 ?_
                          dsimp only [List.set_cons_zero, List.set_cons_succ]
                          refine M.iinc (pc := 188) (i := 9) rfl rfl dX8_narrow_188 ?_
                          dsimp only [List.set_cons_zero, List.set_cons_succ]
                          refine M.goto (pc := 191) (tgt := 115) dX8_narrow_191 (by decide) ?_
                          exact ih115  (by first | assumption | omega) (by rw [sumT_s _ _ hj.1]; simp_all [exF]) (by rw [sumT_s _ _ hj.1]; simp_all [exF]) (by omega)
                        · refine M.aloadn (pc := 174) 0 rfl rfl dX8_narrow_174 ?_
                          refine M.getf (pc := 175) fg_X8_38 0 rfl rfl dX8_narrow_175 ?_
                          refine M.iload (pc := 178) (i := 9) rfl dX8_narrow_178 ?_
                          refine M.iald (pc := 180) 5 rfl (by omega) (by omega) dX8_narrow_180 ?_
                          refine M.goto (pc := 181) (tgt := 185) dX8_narrow_181 (by decide) ?_
                          refine M.iadd (pc := 185) dX8_narrow_185 ?_
                          refine M.istore (pc := 186) (i := 8) (Nat.le_of_ble_eq_true rfl) rfl dX8_narrow_186 ?_
                          dsimp only [List.set_cons_zero, List.set_cons_succ]
                          refine M.iinc (pc := 188) (i := 9) rfl rfl dX8_narrow_188 ?_
                          dsimp only [List.set_cons_zero, List.set_cons_succ]
                          refine M.goto (pc := 191) (tgt := 115) dX8_narrow_191 (by decide) ?_
                          exact ih115  (by first | assumption | omega) (by rw [sumT_s _ _ hj.1]; simp_all [exF]) (by rw [sumT_s _ _ hj.1]; simp_all [exF]) (by omega)
                    · refine M.aloadn (pc := 142) 0 rfl rfl dX8_narrow_142 ?_
                      refine M.getf (pc := 143) fg_X8_35 0 rfl rfl dX8_narrow_143 ?_
                      refine M.iload (pc := 146) (i := 9) rfl dX8_narrow_146 ?_
                      refine M.iald (pc := 148) 4 rfl (by omega) (by omega) dX8_narrow_148 ?_
                      refine M.goto (pc := 149) (tgt := 153) dX8_narrow_149 (by decide) ?_
                      refine M.iadd (pc := 153) dX8_narrow_153 ?_
                      refine M.istore (pc := 154) (i := 7) (Nat.le_of_ble_eq_true rfl) rfl dX8_narrow_154 ?_
                      dsimp only [List.set_cons_zero, List.set_cons_succ]
                      refine M.iload (pc := 156) (i := 8) rfl dX8_narrow_156 ?_
                      refine M.iloadn (pc := 158) 3 rfl rfl dX8_narrow_158 ?_
                      refine M.iload (pc := 159) (i := 9) rfl dX8_narrow_159 ?_
                      refine M.pS (pc := 161) (c_X8_has  (by first | assumption | omega) (by first | assumption | omega) (by first | assumption | omega) (by first | assumption | omega)) ms_X8_191 [] rfl rfl rfl rfl (Nat.le_of_ble_eq_true rfl) rfl ⟨(Nat.le_of_ble_eq_true rfl), (Nat.le_of_ble_eq_true rfl)⟩ ⟨(Nat.le_of_ble_eq_true rfl), (Nat.le_of_ble_eq_true rfl)⟩ rfl dX8_narrow_161 ?_
                      refine M.if_eqP (pc := 164) (tgt := 184) dX8_narrow_164 (by decide) (fun c164 => ?_) (fun c164 => ?_)
                      · refine M.iconst (pc := 184) dX8_narrow_184 ?_
                        refine M.iadd (pc := 185) dX8_narrow_185 ?_
                        refine M.istore (pc := 186) (i := 8) (Nat.le_of_ble_eq_true rfl) rfl dX8_narrow_186 ?_
                        dsimp only [List.set_cons_zero, List.set_cons_succ]
                        refine M.iinc (pc := 188) (i := 9) rfl rfl dX8_narrow_188 ?_
                        dsimp only [List.set_cons_zero, List.set_cons_succ]
                        refine M.goto (pc := 191) (tgt := 115) dX8_narrow_191 (by decide) ?_
                        exact ih115  (by first | assumption | omega) (by rw [sumT_s _ _ hj.1]; simp_all [exF]) (by rw [sumT_s _ _ hj.1]; simp_all [exF]) (by omega)
                      · refine M.iload (pc := 167) (i := 9) rfl dX8_narrow_167 ?_
                        refine M.iload (pc := 169) (i := 6) rfl dX8_narrow_169 ?_
                        refine M.icmp_eq (pc := 171) (tgt := 184) dX8_narrow_171 (by decide) (by omega) (by omega) (fun c171 => ?_) (fun c171 => ?_)
                        · refine M.iconst (pc := 184) dX8_narrow_184 ?_
                          refine M.iadd (pc := 185) dX8_narrow_185 ?_
                          refine M.istore (pc := 186) (i := 8) (Nat.le_of_ble_eq_true rfl) rfl dX8_narrow_186 ?_
                          dsimp only [List.set_cons_zero, List.set_cons_succ]
                          refine M.iinc (pc := 188) (i := 9) rfl rfl dX8_narrow_188 ?_
                          dsimp only [List.set_cons_zero, List.set_cons_succ]
                          refine M.goto (pc := 191) (tgt := 115) dX8_narrow_191 (by decide) ?_
                          exact ih115  (by first | assumption | omega) (by rw [sumT_s _ _ hj.1]; simp_all [exF]) (by rw [sumT_s _ _ hj.1]; simp_all [exF]) (by omega)
                        · refine M.aloadn (pc := 174) 0 rfl rfl dX8_narrow_174 ?_
                          refine M.getf (pc := 175) fg_X8_38 0 rfl rfl dX8_narrow_175 ?_
                          refine M.iload (pc := 178) (i := 9) rfl dX8_narrow_178 ?_
                          refine M.iald (pc := 180) 5 rfl (by omega) (by omega) dX8_narrow_180 ?_
                          refine M.goto (pc := 181) (tgt := 185) dX8_narrow_181 (by decide) ?_
                          refine M.iadd (pc := 185) dX8_narrow_185 ?_
                          refine M.istore (pc := 186) (i := 8) (Nat.le_of_ble_eq_true rfl) rfl dX8_narrow_186 ?_
                          dsimp only [List.set_cons_zero, List.set_cons_succ]
                          refine M.iinc (pc := 188) (i := 9) rfl rfl dX8_narrow_188 ?_
                          dsimp only [List.set_cons_zero, List.set_cons_succ]
                          refine M.goto (pc := 191) (tgt := 115) dX8_narrow_191 (by decide) ?_
                          exact ih115  (by first | assumption | omega) (by rw [sumT_s _ _ hj.1]; simp_all [exF]) (by rw [sumT_s _ _ hj.1]; simp_all [exF]) (by omega)
            exact L115 _  (by first | assumption | omega) (by rfl) (by rfl) (Nat.lt_succ_self _)
    exact L88 _  (by first | assumption | omega) (by first | assumption | omega) (by exact fun j _ _ => ⟨Int.le_refl _, Int.le_refl _⟩) (by exact hst.imp NG.first NB.first) (Nat.lt_succ_self _)
  refine M.iconst (pc := 0) dX8_narrow_0 ?_
  refine M.iloadn (pc := 1) 1 rfl rfl dX8_narrow_1 ?_
  refine M.imul (pc := 2) dX8_narrow_2 ?_
  refine M.istoren (pc := 3) 2 rfl (Nat.le_of_ble_eq_true rfl) rfl dX8_narrow_3 ?_
  dsimp only [List.set_cons_zero, List.set_cons_succ]
  refine M.aloadn (pc := 4) 0 rfl rfl dX8_narrow_4 ?_
  refine M.getf (pc := 5) fg_X8_20 0 rfl rfl dX8_narrow_5 ?_
  refine M.iloadn (pc := 8) 2 rfl rfl dX8_narrow_8 ?_
  refine M.iconst (pc := 9) dX8_narrow_9 ?_
  refine M.iadd (pc := 10) dX8_narrow_10 ?_
  refine M.ialdx (pc := 11) (mi * 4 + 2) (by omega) 3 rfl (by omega) (by omega) dX8_narrow_11 ?_
  rw [show gm (mi * 4 + 2) = mS gm mi from rfl]
  refine M.istoren (pc := 12) 3 rfl (Nat.le_of_ble_eq_true rfl) rfl dX8_narrow_12 ?_
  dsimp only [List.set_cons_zero, List.set_cons_succ]
  refine M.aloadn (pc := 13) 0 rfl rfl dX8_narrow_13 ?_
  refine M.aloadn (pc := 14) 0 rfl rfl dX8_narrow_14 ?_
  refine M.getf (pc := 15) fg_X8_20 0 rfl rfl dX8_narrow_15 ?_
  refine M.iloadn (pc := 18) 2 rfl rfl dX8_narrow_18 ?_
  refine M.ialdx (pc := 19) (mi * 4 + 0) (by omega) 3 rfl (by omega) (by omega) dX8_narrow_19 ?_
  refine M.aloadn (pc := 20) 0 rfl rfl dX8_narrow_20 ?_
  refine M.getf (pc := 21) fg_X8_20 0 rfl rfl dX8_narrow_21 ?_
  refine M.iloadn (pc := 24) 2 rfl rfl dX8_narrow_24 ?_
  refine M.iconst (pc := 25) dX8_narrow_25 ?_
  refine M.iadd (pc := 26) dX8_narrow_26 ?_
  refine M.ialdx (pc := 27) (mi * 4 + 1) (by omega) 3 rfl (by omega) (by omega) dX8_narrow_27 ?_
  refine M.aloadn (pc := 28) 0 rfl rfl dX8_narrow_28 ?_
  refine M.getf (pc := 29) fg_X8_20 0 rfl rfl dX8_narrow_29 ?_
  refine M.iloadn (pc := 32) 2 rfl rfl dX8_narrow_32 ?_
  refine M.iconst (pc := 33) dX8_narrow_33 ?_
  refine M.iadd (pc := 34) dX8_narrow_34 ?_
  refine M.ialdx (pc := 35) (mi * 4 + 3) (by omega) 3 rfl (by omega) (by omega) dX8_narrow_35 ?_
  refine M.pV (pc := 36) (c_X8_mostOf  (by first | assumption | omega) (by first | assumption | omega) (by first | assumption | omega) (by first | assumption | omega) (by first | assumption | omega)) mv_X8_211 [0, 1] rfl rfl rfl 0 rfl rfl rfl rfl (Nat.le_of_ble_eq_true rfl) rfl ⟨(Nat.le_of_ble_eq_true rfl), (Nat.le_of_ble_eq_true rfl)⟩ ⟨(Nat.le_of_ble_eq_true rfl), (Nat.le_of_ble_eq_true rfl)⟩ rfl dX8_narrow_36 ?_
  rw [show hMos gb (gm (mi * 4 + 0)) (gm (mi * 4 + 1)) (gm (mi * 4 + 3)) = mG gb gm mi from rfl]
  refine M.istore (pc := 39) (i := 4) (Nat.le_of_ble_eq_true rfl) rfl dX8_narrow_39 ?_
  dsimp only [List.set_cons_zero, List.set_cons_succ]
  refine M.aloadn (pc := 41) 0 rfl rfl dX8_narrow_41 ?_
  refine M.aloadn (pc := 42) 0 rfl rfl dX8_narrow_42 ?_
  refine M.getf (pc := 43) fg_X8_20 0 rfl rfl dX8_narrow_43 ?_
  refine M.iloadn (pc := 46) 2 rfl rfl dX8_narrow_46 ?_
  refine M.ialdx (pc := 47) (mi * 4 + 0) (by omega) 3 rfl (by omega) (by omega) dX8_narrow_47 ?_
  refine M.aloadn (pc := 48) 0 rfl rfl dX8_narrow_48 ?_
  refine M.getf (pc := 49) fg_X8_20 0 rfl rfl dX8_narrow_49 ?_
  refine M.iloadn (pc := 52) 2 rfl rfl dX8_narrow_52 ?_
  refine M.iconst (pc := 53) dX8_narrow_53 ?_
  refine M.iadd (pc := 54) dX8_narrow_54 ?_
  refine M.ialdx (pc := 55) (mi * 4 + 1) (by omega) 3 rfl (by omega) (by omega) dX8_narrow_55 ?_
  refine M.aloadn (pc := 56) 0 rfl rfl dX8_narrow_56 ?_
  refine M.getf (pc := 57) fg_X8_20 0 rfl rfl dX8_narrow_57 ?_
  refine M.iloadn (pc := 60) 2 rfl rfl dX8_narrow_60 ?_
  refine M.iconst (pc := 61) dX8_narrow_61 ?_
  refine M.iadd (pc := 62) dX8_narrow_62 ?_
  refine M.ialdx (pc := 63) (mi * 4 + 3) (by omega) 3 rfl (by omega) (by omega) dX8_narrow_63 ?_
  refine M.pV (pc := 64) (c_X8_leastOf  (by first | assumption | omega) (by first | assumption | omega) (by first | assumption | omega) (by first | assumption | omega) (by first | assumption | omega)) mv_X8_214 [0, 1] rfl rfl rfl 0 rfl rfl rfl rfl (Nat.le_of_ble_eq_true rfl) rfl ⟨(Nat.le_of_ble_eq_true rfl), (Nat.le_of_ble_eq_true rfl)⟩ ⟨(Nat.le_of_ble_eq_true rfl), (Nat.le_of_ble_eq_true rfl)⟩ rfl dX8_narrow_64 ?_
  rw [show hLst gb (gm (mi * 4 + 0)) (gm (mi * 4 + 1)) (gm (mi * 4 + 3)) = mL gb gm mi from rfl]
  refine M.istore (pc := 67) (i := 5) (Nat.le_of_ble_eq_true rfl) rfl dX8_narrow_67 ?_
  dsimp only [List.set_cons_zero, List.set_cons_succ]
  refine M.iload (pc := 69) (i := 4) rfl dX8_narrow_69 ?_
  refine M.if_lt (pc := 71) (tgt := 83) dX8_narrow_71 (by decide) (by omega) (fun c71 => ?_) (fun c71 => ?_)
  · refine M.iconst (pc := 83) dX8_narrow_83 ?_
    exact EI (false, vch, gl, gh) _ _ _ _ dX8_narrow_84 (Or.inr ⟨rfl, by first | exact Or.inl rfl | exact Or.inr rfl | exact pI_01 _⟩) (eqI (pI_f (by simp))) (rfl) (Or.inl ⟨rfl, by unfold Bad; omega, rfl, rfl, rfl⟩)
  · refine M.iloadn (pc := 74) 3 rfl rfl dX8_narrow_74 ?_
    refine M.if_ne (pc := 75) (tgt := 85) dX8_narrow_75 (by decide) (by omega) (fun c75 => ?_) (fun c75 => ?_)
    · refine M.forget 2 ?_
      dsimp only [List.set_cons_zero, List.set_cons_succ]
      exact L85  (by omega) (by unfold Bad; omega)
    · refine M.iload (pc := 78) (i := 5) rfl dX8_narrow_78 ?_
      refine M.if_le (pc := 80) (tgt := 85) dX8_narrow_80 (by decide) (by omega) (fun c80 => ?_) (fun c80 => ?_)
      · refine M.forget 2 ?_
        dsimp only [List.set_cons_zero, List.set_cons_succ]
        exact L85  (by omega) (by unfold Bad; omega)
      · refine M.iconst (pc := 83) dX8_narrow_83 ?_
        exact EI (false, vch, gl, gh) _ _ _ _ dX8_narrow_84 (Or.inr ⟨rfl, by first | exact Or.inl rfl | exact Or.inr rfl | exact pI_01 _⟩) (eqI (pI_f (by simp))) (rfl) (Or.inl ⟨rfl, by unfold Bad; omega, rfl, rfl, rfl⟩)
set_option maxHeartbeats 4000000 in
set_option maxRecDepth 100000 in
theorem c_X8_isClash {l : Launch} {G : GT} {m aBath aBather aMorn aText aRB aRN aLow aHigh aNeeds aLikes aHts aBook aImg aKept : Nat} {vb vn vo vm vs vt vf va vw vu vna vrb vrn vro vtr vbk vsd : Int} {vch : Bool} {gb : Int → Int} {gt : Int → Int} {gm : Int → Int} {gl : Int → Int} {gh : Int → Int} {wo : Int} (hn : 0 ≤ vn ∧ vn ≤ 6) (hnb : 0 ≤ vb ∧ vb ≤ 2) (hc : 0 ≤ vm ∧ vm ≤ 12) (hV : HV gb vb) (hT : HVT gt vn) (hM : HM gm vm vb vn) (hRX : RX gl gh) (hwo : 0 ≤ wo ∧ wo < p2 vm) : Con l G yX8_isClash cX8_isClash 4 (some .boolean) { frames := 3, cells := 0, slots := 0, locals := 76 } [.ref m, .int (iI wo)] [(m, eO 8 [.int (iI vb), .ref aBath, .int (iI vn), .ref aBather, .int (iI vo), .int (iI vm), .ref aMorn, .int (iI vs), .ref aText, .int (iI vt), .int (iI vf), .int (iI va), .long (lI vsd), .int (iI vw), .int (iI vu), .int (iI vna), .int (iI vrb), .ref aRB, .int (iI vrn), .ref aRN, .int (iI vro), .ref aLow, .ref aHigh, .int (iI (pI (vch = true))), .ref aNeeds, .ref aLikes, .ref aHts, .int (iI vtr), .int (iI vbk), .ref aBook, .ref aImg, .ref aKept]), (aBath, eI G 8 gb), (aBather, eI G 24 gt), (aMorn, eI G 48 gm), (aLow, eI G 6 gl), (aHigh, eI G 6 gh)] (S := Bool × Bool × (Int → Int) × (Int → Int)) (fun u => some (.int (iI (pI (u.1 = true))))) (fun u => [(m, eO 8 [.int (iI vb), .ref aBath, .int (iI vn), .ref aBather, .int (iI vo), .int (iI vm), .ref aMorn, .int (iI vs), .ref aText, .int (iI vt), .int (iI vf), .int (iI va), .long (lI vsd), .int (iI vw), .int (iI vu), .int (iI vna), .int (iI vrb), .ref aRB, .int (iI vrn), .ref aRN, .int (iI vro), .ref aLow, .ref aHigh, .int (iI (pI (u.2.1 = true))), .ref aNeeds, .ref aLikes, .ref aHts, .int (iI vtr), .int (iI vbk), .ref aBook, .ref aImg, .ref aKept]), (aBath, eI G 8 gb), (aBather, eI G 24 gt), (aMorn, eI G 48 gm), (aLow, eI G 6 u.2.2.1), (aHigh, eI G 6 u.2.2.2)]) (fun u => RX u.2.2.1 u.2.2.2 ∧ ((u.1 = true ∧ Cl vn vm (fU gt) (fV gt) (mS gm) (mL gb gm) (mG gb gm) (p2 vm - 1 - wo)) ∨ (u.1 = false ∧ Sta vn vm (fU gt) (fV gt) (mS gm) (mL gb gm) (mG gb gm) (p2 vm - 1 - wo) u.2.2.1 u.2.2.2 ∧ Enc vn vm (fU gt) (fV gt) (mS gm) (mL gb gm) (mG gb gm) (p2 vm - 1 - wo) u.2.2.1 u.2.2.2))) := by
  refine Con.mk (by decide +kernel) [some (.ref m), some (.int (iI wo)), none, none] rfl (Nat.le_of_ble_eq_true rfl) rfl ?_
  intro V M EI EL EV EA
  have hp12 := p2_12 hc.2
  have hUV : ∀ k, 0 ≤ k → k < vn → 0 ≤ fU gt k ∧ fV gt k ≤ 999 := fun k h0 h1 => by
    have q := hT k h0 h1
    have w3 : fV gt k = gt (k * 4 + 1) := rfl
    have w4 : fU gt k = gt (k * 4 + 0) := rfl
    omega
  have htb : ∀ m, 0 ≤ m → m < vm → tb (p2 vm - 1 - wo) m = !tb wo m := fun m h0 h1 => tb_cmp hwo.1 hwo.2 h0 h1
  refine M.aloadn (pc := 0) 0 rfl rfl dX8_isClash_0 ?_
  refine M.mV (pc := 1) (c_X8_startEnds  (by first | assumption | omega)) mv_X8_221 [0, 2, 4, 5] rfl rfl rfl 0 rfl rfl rfl rfl (Nat.le_of_ble_eq_true rfl) rfl ⟨(Nat.le_of_ble_eq_true rfl), (Nat.le_of_ble_eq_true rfl)⟩ ⟨(Nat.le_of_ble_eq_true rfl), (Nat.le_of_ble_eq_true rfl)⟩ rfl (fun _ => rfl) dX8_isClash_1 (fun u1 hu1 => ?_)
  obtain ⟨l1, h1⟩ := u1
  dsimp only [putL, List.set_cons_zero, List.set_cons_succ, Option.toList, List.cons_append, List.nil_append] at hu1 ⊢
  have hr0 : RX l1 h1 := fun k h0 h2 => by
    rcases (by omega : k < vn ∨ vn ≤ k) with z | z
    · have q1 := hu1.1 k h0 z
      have q2 := hT k h0 z
      rw [q1.1, q1.2]
      exact ⟨by omega, by omega⟩
    · have q1 := hu1.2 k z
      rw [q1.1, q1.2]
      exact hRX k h0 h2
  have hb0 : Bx vn (fU gt) (fV gt) l1 h1 := fun k h0 h2 => by
    have q1 := hu1.1 k h0 h2
    have q2 := hT k h0 h2
    show gt (k * 4 + 0) ≤ l1 k ∧ l1 k ≤ h1 k ∧ h1 k ≤ gt (k * 4 + 1)
    omega
  have he0 : Enc vn vm (fU gt) (fV gt) (mS gm) (mL gb gm) (mG gb gm) (p2 vm - 1 - wo) l1 h1 := fun l' u' hs k h0 h2 => by
    have q1 := hu1.1 k h0 h2
    have q2 := hs.1 k h0 h2
    rw [q1.1, q1.2]
    exact ⟨q2.1, q2.2.2⟩
  have hw0 := wdn_b hb0 hn.1 hn.2 hUV
  refine M.aloadn (pc := 4) 0 rfl rfl dX8_isClash_4 ?_
  refine M.iconst (pc := 5) dX8_isClash_5 ?_
  refine M.putfZ (pc := 6) (true) (by rfl) fp_X8_217 0 rfl (Nat.le_of_ble_eq_true rfl) dX8_isClash_6 ?_
  dsimp only [List.set_cons_zero, List.set_cons_succ]
  refine M.iconst (pc := 9) dX8_isClash_9 ?_
  refine M.istoren (pc := 10) 2 rfl (Nat.le_of_ble_eq_true rfl) rfl dX8_isClash_10 ?_
  dsimp only [List.set_cons_zero, List.set_cons_succ]
  have L11 : ∀ (fu : Nat) {w : Int} {good ch : Bool} {l u : Int → Int}, (RX l u) → ((good = false ∧ Cl vn vm (fU gt) (fV gt) (mS gm) (mL gb gm) (mG gb gm) (p2 vm - 1 - wo)) ∨ (good = true ∧ Bx vn (fU gt) (fV gt) l u ∧ Enc vn vm (fU gt) (fV gt) (mS gm) (mL gb gm) (mG gb gm) (p2 vm - 1 - wo) l u ∧ (ch = true ∨ ∀ m, 0 ≤ m → m < vm → tb (p2 vm - 1 - wo) m = true → Okm vn (mS gm) (mL gb gm) (mG gb gm) l u m))) → (0 ≤ w ∧ (good = true → ch = true → wdn vn l u < w)) → w.toNat < fu → V 0 0 11 [(m, eO 8 [.int (iI vb), .ref aBath, .int (iI vn), .ref aBather, .int (iI vo), .int (iI vm), .ref aMorn, .int (iI vs), .ref aText, .int (iI vt), .int (iI vf), .int (iI va), .long (lI vsd), .int (iI vw), .int (iI vu), .int (iI vna), .int (iI vrb), .ref aRB, .int (iI vrn), .ref aRN, .int (iI vro), .ref aLow, .ref aHigh, .int (iI (pI (ch = true))), .ref aNeeds, .ref aLikes, .ref aHts, .int (iI vtr), .int (iI vbk), .ref aBook, .ref aImg, .ref aKept]), (aBath, eI G 8 gb), (aBather, eI G 24 gt), (aMorn, eI G 48 gm), (aLow, eI G 6 l), (aHigh, eI G 6 u)] [some (.ref m), some (.int (iI wo)), some (.int (iI (pI (good = true)))), none] [] := by
    intro fu
    induction fu with
    | zero => intro w good ch l u hRl hgd hw hm; exact absurd hm (Nat.not_lt_zero _)
    | succ fu ih11 =>
      intro w good ch l u hRl hgd hw hm11
      refine M.aloadn (pc := 11) 0 rfl rfl dX8_isClash_11 ?_
      refine M.getf (pc := 12) fg_X8_217 0 rfl rfl dX8_isClash_12 ?_
      refine M.if_eqP (pc := 15) (tgt := 113) dX8_isClash_15 (by decide) (fun c15 => ?_) (fun c15 => ?_)
      · refine M.iloadn (pc := 113) 2 rfl rfl dX8_isClash_113 ?_
        refine M.if_neP (pc := 114) (tgt := 121) dX8_isClash_114 (by decide) (fun c114 => ?_) (fun c114 => ?_)
        · refine M.iconst (pc := 121) dX8_isClash_121 ?_
          have hfin : ((!good) = true ∧ Cl vn vm (fU gt) (fV gt) (mS gm) (mL gb gm) (mG gb gm) (p2 vm - 1 - wo)) ∨ ((!good) = false ∧ Sta vn vm (fU gt) (fV gt) (mS gm) (mL gb gm) (mG gb gm) (p2 vm - 1 - wo) l u ∧ Enc vn vm (fU gt) (fV gt) (mS gm) (mL gb gm) (mG gb gm) (p2 vm - 1 - wo) l u) := by
            rcases hgd with ⟨q0, q⟩ | ⟨q0, b1, b2, b3⟩
            · exact Or.inl ⟨by rw [q0]; rfl, q⟩
            · refine Or.inr ⟨by rw [q0]; rfl, ⟨b1, ?_⟩, b2⟩
              rcases b3 with b3 | b3
              · first
                  | exact absurd b3 c15
                  | exact absurd q0 c19
              · exact b3
          exact EI (!good, ch, l, u) _ _ _ _ dX8_isClash_122 (Or.inr ⟨rfl, by first | exact Or.inl rfl | exact Or.inr rfl | exact pI_01 _⟩) (eqI (by first | exact pI_eq1 (by simpa using c114) rfl | exact pI_eq0 (by simpa using c114) rfl)) (rfl) (⟨hRl, hfin⟩)
        · refine M.iconst (pc := 117) dX8_isClash_117 ?_
          refine M.goto (pc := 118) (tgt := 122) dX8_isClash_118 (by decide) ?_
          have hfin : ((!good) = true ∧ Cl vn vm (fU gt) (fV gt) (mS gm) (mL gb gm) (mG gb gm) (p2 vm - 1 - wo)) ∨ ((!good) = false ∧ Sta vn vm (fU gt) (fV gt) (mS gm) (mL gb gm) (mG gb gm) (p2 vm - 1 - wo) l u ∧ Enc vn vm (fU gt) (fV gt) (mS gm) (mL gb gm) (mG gb gm) (p2 vm - 1 - wo) l u) := by
            rcases hgd with ⟨q0, q⟩ | ⟨q0, b1, b2, b3⟩
            · exact Or.inl ⟨by rw [q0]; rfl, q⟩
            · refine Or.inr ⟨by rw [q0]; rfl, ⟨b1, ?_⟩, b2⟩
              rcases b3 with b3 | b3
              · first
                  | exact absurd b3 c15
                  | exact absurd q0 c19
              · exact b3
          exact EI (!good, ch, l, u) _ _ _ _ dX8_isClash_122 (Or.inr ⟨rfl, by first | exact Or.inl rfl | exact Or.inr rfl | exact pI_01 _⟩) (eqI (by first | exact pI_eq1 (by simpa using c114) rfl | exact pI_eq0 (by simpa using c114) rfl)) (rfl) (⟨hRl, hfin⟩)
      · refine M.iloadn (pc := 18) 2 rfl rfl dX8_isClash_18 ?_
        refine M.if_eqP (pc := 19) (tgt := 113) dX8_isClash_19 (by decide) (fun c19 => ?_) (fun c19 => ?_)
        · refine M.iloadn (pc := 113) 2 rfl rfl dX8_isClash_113 ?_
          refine M.if_neP (pc := 114) (tgt := 121) dX8_isClash_114 (by decide) (fun c114 => ?_) (fun c114 => ?_)
          · refine M.iconst (pc := 121) dX8_isClash_121 ?_
            have hfin : ((!good) = true ∧ Cl vn vm (fU gt) (fV gt) (mS gm) (mL gb gm) (mG gb gm) (p2 vm - 1 - wo)) ∨ ((!good) = false ∧ Sta vn vm (fU gt) (fV gt) (mS gm) (mL gb gm) (mG gb gm) (p2 vm - 1 - wo) l u ∧ Enc vn vm (fU gt) (fV gt) (mS gm) (mL gb gm) (mG gb gm) (p2 vm - 1 - wo) l u) := by
              rcases hgd with ⟨q0, q⟩ | ⟨q0, b1, b2, b3⟩
              · exact Or.inl ⟨by rw [q0]; rfl, q⟩
              · refine Or.inr ⟨by rw [q0]; rfl, ⟨b1, ?_⟩, b2⟩
                rcases b3 with b3 | b3
                · first
                    | exact absurd b3 c15
                    | exact absurd q0 c19
                · exact b3
            exact EI (!good, ch, l, u) _ _ _ _ dX8_isClash_122 (Or.inr ⟨rfl, by first | exact Or.inl rfl | exact Or.inr rfl | exact pI_01 _⟩) (eqI (by first | exact pI_eq1 (by simpa using c114) rfl | exact pI_eq0 (by simpa using c114) rfl)) (rfl) (⟨hRl, hfin⟩)
          · refine M.iconst (pc := 117) dX8_isClash_117 ?_
            refine M.goto (pc := 118) (tgt := 122) dX8_isClash_118 (by decide) ?_
            have hfin : ((!good) = true ∧ Cl vn vm (fU gt) (fV gt) (mS gm) (mL gb gm) (mG gb gm) (p2 vm - 1 - wo)) ∨ ((!good) = false ∧ Sta vn vm (fU gt) (fV gt) (mS gm) (mL gb gm) (mG gb gm) (p2 vm - 1 - wo) l u ∧ Enc vn vm (fU gt) (fV gt) (mS gm) (mL gb gm) (mG gb gm) (p2 vm - 1 - wo) l u) := by
              rcases hgd with ⟨q0, q⟩ | ⟨q0, b1, b2, b3⟩
              · exact Or.inl ⟨by rw [q0]; rfl, q⟩
              · refine Or.inr ⟨by rw [q0]; rfl, ⟨b1, ?_⟩, b2⟩
                rcases b3 with b3 | b3
                · first
                    | exact absurd b3 c15
                    | exact absurd q0 c19
                · exact b3
            exact EI (!good, ch, l, u) _ _ _ _ dX8_isClash_122 (Or.inr ⟨rfl, by first | exact Or.inl rfl | exact Or.inr rfl | exact pI_01 _⟩) (eqI (by first | exact pI_eq1 (by simpa using c114) rfl | exact pI_eq0 (by simpa using c114) rfl)) (rfl) (⟨hRl, hfin⟩)
        · have hBE : Bx vn (fU gt) (fV gt) l u ∧ Enc vn vm (fU gt) (fV gt) (mS gm) (mL gb gm) (mG gb gm) (p2 vm - 1 - wo) l u := by
            rcases hgd with ⟨q, _⟩ | ⟨_, q1, q2, _⟩
            · rw [q] at c19; exact absurd c19 (by decide)
            · exact ⟨q1, q2⟩
          have hwb := wdn_b hBE.1 hn.1 hn.2 hUV
          refine M.aloadn (pc := 22) 0 rfl rfl dX8_isClash_22 ?_
          refine M.iconst (pc := 23) dX8_isClash_23 ?_
          refine M.putfZ (pc := 24) (false) (by rfl) fp_X8_217 0 rfl (Nat.le_of_ble_eq_true rfl) dX8_isClash_24 ?_
          dsimp only [List.set_cons_zero, List.set_cons_succ]
          refine M.iconst (pc := 27) dX8_isClash_27 ?_
          refine M.istoren (pc := 28) 3 rfl (Nat.le_of_ble_eq_true rfl) rfl dX8_isClash_28 ?_
          dsimp only [List.set_cons_zero, List.set_cons_succ]
          have L29 : ∀ (fu : Nat) {i : Int} {good2 ch2 : Bool} {l2 u2 : Int → Int}, (0 ≤ i ∧ i ≤ vm) → (RX l2 u2) → (IM vn vm (fU gt) (fV gt) (mS gm) (mL gb gm) (mG gb gm) (p2 vm - 1 - wo) l u i good2 ch2 l2 u2) → (vm - i).toNat < fu → V 0 0 29 [(m, eO 8 [.int (iI vb), .ref aBath, .int (iI vn), .ref aBather, .int (iI vo), .int (iI vm), .ref aMorn, .int (iI vs), .ref aText, .int (iI vt), .int (iI vf), .int (iI va), .long (lI vsd), .int (iI vw), .int (iI vu), .int (iI vna), .int (iI vrb), .ref aRB, .int (iI vrn), .ref aRN, .int (iI vro), .ref aLow, .ref aHigh, .int (iI (pI (ch2 = true))), .ref aNeeds, .ref aLikes, .ref aHts, .int (iI vtr), .int (iI vbk), .ref aBook, .ref aImg, .ref aKept]), (aBath, eI G 8 gb), (aBather, eI G 24 gt), (aMorn, eI G 48 gm), (aLow, eI G 6 l2), (aHigh, eI G 6 u2)] [some (.ref m), some (.int (iI wo)), some (.int (iI (pI (good2 = true)))), some (.int (iI i))] [] := by
            intro fu
            induction fu with
            | zero => intro i good2 ch2 l2 u2 hi hR2 him hm; exact absurd hm (Nat.not_lt_zero _)
            | succ fu ih29 =>
              intro i good2 ch2 l2 u2 hi hR2 him hm29
              refine M.iloadn (pc := 29) 3 rfl rfl dX8_isClash_29 ?_
              refine M.aloadn (pc := 30) 0 rfl rfl dX8_isClash_30 ?_
              refine M.getf (pc := 31) fg_X8_160 0 rfl rfl dX8_isClash_31 ?_
              refine M.icmp_ge (pc := 34) (tgt := 69) dX8_isClash_34 (by decide) (by omega) (by omega) (fun c34 => ?_) (fun c34 => ?_)
              · refine M.iconst (pc := 69) dX8_isClash_69 ?_
                refine M.istoren (pc := 70) 3 rfl (Nat.le_of_ble_eq_true rfl) rfl dX8_isClash_70 ?_
                dsimp only [List.set_cons_zero, List.set_cons_succ]
                have L71 : ∀ (fu : Nat) {k : Int} {good4 : Bool}, (0 ≤ k ∧ k ≤ vn) → ((good4 = true → good2 = true ∧ ∀ j, 0 ≤ j → j < k → l2 j ≤ u2 j) ∧ (good2 = true → (∀ j, 0 ≤ j → j < k → l2 j ≤ u2 j) → good4 = true)) → (vn - k).toNat < fu → V 0 0 71 [(m, eO 8 [.int (iI vb), .ref aBath, .int (iI vn), .ref aBather, .int (iI vo), .int (iI vm), .ref aMorn, .int (iI vs), .ref aText, .int (iI vt), .int (iI vf), .int (iI va), .long (lI vsd), .int (iI vw), .int (iI vu), .int (iI vna), .int (iI vrb), .ref aRB, .int (iI vrn), .ref aRN, .int (iI vro), .ref aLow, .ref aHigh, .int (iI (pI (ch2 = true))), .ref aNeeds, .ref aLikes, .ref aHts, .int (iI vtr), .int (iI vbk), .ref aBook, .ref aImg, .ref aKept]), (aBath, eI G 8 gb), (aBather, eI G 24 gt), (aMorn, eI G 48 gm), (aLow, eI G 6 l2), (aHigh, eI G 6 u2)] [some (.ref m), some (.int (iI wo)), some (.int (iI (pI (good4 = true)))), some (.int (iI k))] [] := by
                  intro fu
                  induction fu with
                  | zero => intro k good4 hk hg4 hm; exact absurd hm (Nat.not_lt_zero _)
                  | succ fu ih71 =>
                    intro k good4 hk hg4 hm71
                    refine M.iloadn (pc := 71) 3 rfl rfl dX8_isClash_71 ?_
                    refine M.aloadn (pc := 72) 0 rfl rfl dX8_isClash_72 ?_
                    refine M.getf (pc := 73) fg_X8_67 0 rfl rfl dX8_isClash_73 ?_
                    refine M.icmp_ge (pc := 76) (tgt := 110) dX8_isClash_76 (by decide) (by omega) (by omega) (fun c76 => ?_) (fun c76 => ?_)
                    · refine M.goto (pc := 110) (tgt := 11) dX8_isClash_110 (by decide) ?_
                      refine M.forget 3 ?_
                      dsimp only [List.set_cons_zero, List.set_cons_succ]
                      have hgN : (good4 = false ∧ Cl vn vm (fU gt) (fV gt) (mS gm) (mL gb gm) (mG gb gm) (p2 vm - 1 - wo)) ∨ (good4 = true ∧ Bx vn (fU gt) (fV gt) l2 u2 ∧ Enc vn vm (fU gt) (fV gt) (mS gm) (mL gb gm) (mG gb gm) (p2 vm - 1 - wo) l2 u2 ∧ (ch2 = true ∨ ∀ m, 0 ≤ m → m < vm → tb (p2 vm - 1 - wo) m = true → Okm vn (mS gm) (mL gb gm) (mG gb gm) l2 u2 m)) := by
                        cases hq : good4
                        · left
                          refine ⟨rfl, ?_⟩
                          rcases him with ⟨_, q⟩ | ⟨q1, ⟨b1, _⟩ | ⟨_, q⟩⟩
                          · exact q
                          · have q3 := hg4.2 q1 (fun j h0 h1 => (b1 j h0 (by omega)).2.1)
                            rw [hq] at q3
                            exact absurd q3 (by decide)
                          · exact q
                        · right
                          obtain ⟨q1, q2⟩ := hg4.1 hq
                          rcases him with ⟨q, _⟩ | ⟨_, ⟨b1, b2, b3, b4⟩ | ⟨⟨j, j0, j1, j2⟩, _⟩⟩
                          · rw [q] at q1; exact absurd q1 (by decide)
                          · refine ⟨rfl, b1, b2, ?_⟩
                            rcases b4 with ⟨_, d2, d3, d4⟩ | ⟨d1, _⟩
                            · right
                              intro m m0 m1 m2
                              rw [d2, d3]
                              exact d4 m m0 (by omega) m1 m2
                            · exact Or.inl d1
                          · have := q2 j j0 (by omega)
                            omega
                      have hwN : good4 = true → ch2 = true → wdn vn l2 u2 < w - 1 := fun g1 g2 => by
                        have e1 := hw.2 c19 c15
                        obtain ⟨q1, q2⟩ := hg4.1 g1
                        rcases him with ⟨q, _⟩ | ⟨_, ⟨b1, b2, b3, b4⟩ | ⟨⟨j, j0, j1, j2⟩, _⟩⟩
                        · rw [q] at q1; exact absurd q1 (by decide)
                        · rcases b4 with ⟨d1, _⟩ | ⟨_, d2⟩
                          · rw [d1] at g2; exact absurd g2 (by decide)
                          · omega
                        · have := q2 j j0 (by omega)
                          omega
                      have hw1 := hw.2 c19 c15
                      exact ih11 (w := w - 1) (by exact hR2) (by exact hgN) (by exact ⟨by omega, hwN⟩) (by omega)
                    · have L103 : ∀ {good5 : Bool}, ((good5 = true → good2 = true ∧ ∀ j, 0 ≤ j → j < k + 1 → l2 j ≤ u2 j) ∧ (good2 = true → (∀ j, 0 ≤ j → j < k + 1 → l2 j ≤ u2 j) → good5 = true)) → V 0 0 103 [(m, eO 8 [.int (iI vb), .ref aBath, .int (iI vn), .ref aBather, .int (iI vo), .int (iI vm), .ref aMorn, .int (iI vs), .ref aText, .int (iI vt), .int (iI vf), .int (iI va), .long (lI vsd), .int (iI vw), .int (iI vu), .int (iI vna), .int (iI vrb), .ref aRB, .int (iI vrn), .ref aRN, .int (iI vro), .ref aLow, .ref aHigh, .int (iI (pI (ch2 = true))), .ref aNeeds, .ref aLikes, .ref aHts, .int (iI vtr), .int (iI vbk), .ref aBook, .ref aImg, .ref aKept]), (aBath, eI G 8 gb), (aBather, eI G 24 gt), (aMorn, eI G 48 gm), (aLow, eI G 6 l2), (aHigh, eI G 6 u2)] [some (.ref m), some (.int (iI wo)), none, some (.int (iI k))] [.int (iI (pI (good5 = true)))] := by
                        intro good5 hg5
                        refine M.istoren (pc := 103) 2 rfl (Nat.le_of_ble_eq_true rfl) rfl dX8_isClash_103 ?_
                        dsimp only [List.set_cons_zero, List.set_cons_succ]
                        refine M.iinc (pc := 104) (i := 3) rfl rfl dX8_isClash_104 ?_
                        dsimp only [List.set_cons_zero, List.set_cons_succ]
                        refine M.goto (pc := 107) (tgt := 71) dX8_isClash_107 (by decide) ?_
                        exact ih71  (by first | assumption | omega) (by exact hg5) (by omega)
                      refine M.iloadn (pc := 79) 2 rfl rfl dX8_isClash_79 ?_
                      refine M.if_eqP (pc := 80) (tgt := 102) dX8_isClash_80 (by decide) (fun c80 => ?_) (fun c80 => ?_)
                      · refine M.iconst (pc := 102) dX8_isClash_102 ?_
                        refine M.forget 2 ?_
                        dsimp only [List.set_cons_zero, List.set_cons_succ]
                        exact L103 (good5 := false) (by exact ⟨fun z => absurd z (by decide), fun q1 q2 => by first | exact absurd (hg4.2 q1 (fun j h0 h1 => q2 j h0 (by omega))) c80 | (have := q2 k hk.1 (by omega); omega)⟩)
                      · refine M.aloadn (pc := 83) 0 rfl rfl dX8_isClash_83 ?_
                        refine M.getf (pc := 84) fg_X8_35 0 rfl rfl dX8_isClash_84 ?_
                        refine M.iloadn (pc := 87) 3 rfl rfl dX8_isClash_87 ?_
                        refine M.iald (pc := 88) 4 rfl (by omega) (by omega) dX8_isClash_88 ?_
                        refine M.aloadn (pc := 89) 0 rfl rfl dX8_isClash_89 ?_
                        refine M.getf (pc := 90) fg_X8_38 0 rfl rfl dX8_isClash_90 ?_
                        refine M.iloadn (pc := 93) 3 rfl rfl dX8_isClash_93 ?_
                        refine M.iald (pc := 94) 5 rfl (by omega) (by omega) dX8_isClash_94 ?_
                        refine M.icmp_gt (pc := 95) (tgt := 102) dX8_isClash_95 (by decide) (by exact (hR2 k hk.1 (by omega)).1) (by exact (hR2 k hk.1 (by omega)).2) (fun c95 => ?_) (fun c95 => ?_)
                        · refine M.iconst (pc := 102) dX8_isClash_102 ?_
                          refine M.forget 2 ?_
                          dsimp only [List.set_cons_zero, List.set_cons_succ]
                          exact L103 (good5 := false) (by exact ⟨fun z => absurd z (by decide), fun q1 q2 => by first | exact absurd (hg4.2 q1 (fun j h0 h1 => q2 j h0 (by omega))) c80 | (have := q2 k hk.1 (by omega); omega)⟩)
                        · refine M.iconst (pc := 98) dX8_isClash_98 ?_
                          refine M.goto (pc := 99) (tgt := 103) dX8_isClash_99 (by decide) ?_
                          refine M.forget 2 ?_
                          dsimp only [List.set_cons_zero, List.set_cons_succ]
                          exact L103 (good5 := true) (by exact ⟨fun _ => ⟨(hg4.1 c80).1, fun j h0 h1 => by rcases (by omega : j < k ∨ j = k) with q | q; exact (hg4.1 c80).2 j h0 q; rw [q]; exact c95⟩, fun _ _ => rfl⟩)
                exact L71 _  (by first | assumption | omega) (by exact ⟨fun q => ⟨q, fun j _ _ => by omega⟩, fun q _ => q⟩) (Nat.lt_succ_self _)
              · have L62 : ∀ {good3 ch3 : Bool} {l3 u3 : Int → Int}, (RX l3 u3) → (IM vn vm (fU gt) (fV gt) (mS gm) (mL gb gm) (mG gb gm) (p2 vm - 1 - wo) l u (i + 1) good3 ch3 l3 u3) → V 0 0 62 [(m, eO 8 [.int (iI vb), .ref aBath, .int (iI vn), .ref aBather, .int (iI vo), .int (iI vm), .ref aMorn, .int (iI vs), .ref aText, .int (iI vt), .int (iI vf), .int (iI va), .long (lI vsd), .int (iI vw), .int (iI vu), .int (iI vna), .int (iI vrb), .ref aRB, .int (iI vrn), .ref aRN, .int (iI vro), .ref aLow, .ref aHigh, .int (iI (pI (ch3 = true))), .ref aNeeds, .ref aLikes, .ref aHts, .int (iI vtr), .int (iI vbk), .ref aBook, .ref aImg, .ref aKept]), (aBath, eI G 8 gb), (aBather, eI G 24 gt), (aMorn, eI G 48 gm), (aLow, eI G 6 l3), (aHigh, eI G 6 u3)] [some (.ref m), some (.int (iI wo)), none, some (.int (iI i))] [.int (iI (pI (good3 = true)))] := by
                  intro good3 ch3 l3 u3 hR3 him3
                  refine M.istoren (pc := 62) 2 rfl (Nat.le_of_ble_eq_true rfl) rfl dX8_isClash_62 ?_
                  dsimp only [List.set_cons_zero, List.set_cons_succ]
                  refine M.iinc (pc := 63) (i := 3) rfl rfl dX8_isClash_63 ?_
                  dsimp only [List.set_cons_zero, List.set_cons_succ]
                  refine M.goto (pc := 66) (tgt := 29) dX8_isClash_66 (by decide) ?_
                  exact ih29  (by first | assumption | omega) (by exact hR3) (by exact him3) (by omega)
                refine M.iloadn (pc := 37) 2 rfl rfl dX8_isClash_37 ?_
                refine M.if_eqP (pc := 38) (tgt := 61) dX8_isClash_38 (by decide) (fun c38 => ?_) (fun c38 => ?_)
                · refine M.iconst (pc := 61) dX8_isClash_61 ?_
                  refine M.forget 2 ?_
                  dsimp only [List.set_cons_zero, List.set_cons_succ]
                  exact L62 (good3 := false) (by first | exact hR2 | (obtain ⟨q0, q1, q2⟩ := hF c54; rw [q1, q2]; exact hR2)) (by first | exact him.bad c38 _ _ _ _ | exact IM.clash ⟨hi.1, by omega⟩ htT (hF c54).1 _ _ _ _)
                · refine M.iloadn (pc := 41) 1 rfl rfl dX8_isClash_41 ?_
                  refine M.iloadn (pc := 42) 3 rfl rfl dX8_isClash_42 ?_
                  refine M.pS (pc := 43) (c_X8_has  (by first | assumption | omega) (by first | assumption | omega) (by first | assumption | omega) (by first | assumption | omega)) ms_X8_191 [] rfl rfl rfl rfl (Nat.le_of_ble_eq_true rfl) rfl ⟨(Nat.le_of_ble_eq_true rfl), (Nat.le_of_ble_eq_true rfl)⟩ ⟨(Nat.le_of_ble_eq_true rfl), (Nat.le_of_ble_eq_true rfl)⟩ rfl dX8_isClash_43 ?_
                  refine M.if_neP (pc := 46) (tgt := 57) dX8_isClash_46 (by decide) (fun c46 => ?_) (fun c46 => ?_)
                  · refine M.iconst (pc := 57) dX8_isClash_57 ?_
                    refine M.goto (pc := 58) (tgt := 62) dX8_isClash_58 (by decide) ?_
                    refine M.forget 2 ?_
                    dsimp only [List.set_cons_zero, List.set_cons_succ]
                    exact L62 (good3 := true) (by first | exact (hN c54).2.1 | exact hR2) (by first | exact him.step c38 htT hn.2 (hN c54).1 (hN c54).2.2.1 (hN c54).2.2.2 | exact him.skip c38 (by rw [htb i hi.1 (by omega), c46]; decide))
                  · have hst2 : Bx vn (fU gt) (fV gt) l2 u2 ∨ ∃ j, 0 ≤ j ∧ j < vn ∧ u2 j < l2 j := by
                      rcases him with ⟨q, _⟩ | ⟨_, ⟨q, _⟩ | ⟨q, _⟩⟩
                      · rw [q] at c38; exact absurd c38 (by decide)
                      · exact Or.inl q
                      · exact Or.inr q
                    have htT : tb (p2 vm - 1 - wo) i = true := by rw [htb i hi.1 (by omega)]; simpa using c46
                    refine M.aloadn (pc := 49) 0 rfl rfl dX8_isClash_49 ?_
                    refine M.iloadn (pc := 50) 3 rfl rfl dX8_isClash_50 ?_
                    refine M.mV (pc := 51) (c_X8_narrow  (by first | assumption | omega) (by first | assumption | omega) (by first | assumption | omega) (by first | assumption | omega) (by first | assumption | omega) (by first | assumption | omega) (by exact hR2) (by omega) (by exact hst2)) mv_X8_224 [0, 1, 2, 3, 4, 5] rfl rfl rfl 0 rfl rfl rfl rfl (Nat.le_of_ble_eq_true rfl) rfl ⟨(Nat.le_of_ble_eq_true rfl), (Nat.le_of_ble_eq_true rfl)⟩ ⟨(Nat.le_of_ble_eq_true rfl), (Nat.le_of_ble_eq_true rfl)⟩ rfl (fun _ => rfl) dX8_isClash_51 (fun u51 hu51 => ?_)
                    obtain ⟨r51, x51, l51, h51⟩ := u51
                    dsimp only [putL, List.set_cons_zero, List.set_cons_succ, Option.toList, List.cons_append, List.nil_append] at hu51 ⊢
                    have hN : r51 = true → (¬ Bad (mS gm) (mL gb gm) (mG gb gm) i ∧ RX l51 h51 ∧ (∀ j, 0 ≤ j → j < vn → l2 j ≤ l51 j ∧ h51 j ≤ u2 j) ∧ (NG vn vm (fU gt) (fV gt) (mS gm) (mL gb gm) (mG gb gm) i ch2 l2 u2 vn x51 l51 h51 ∨ NB vn vm (fU gt) (fV gt) (mS gm) (mL gb gm) (mG gb gm) i l2 u2 l51 h51)) := fun q => hu51.elim (fun z => absurd (z.1.symm.trans q) (by decide)) (fun z => z.2)
                    have hF : ¬ r51 = true → (Bad (mS gm) (mL gb gm) (mG gb gm) i ∧ l51 = l2 ∧ h51 = u2) := fun q => hu51.elim (fun z => ⟨z.2.1, z.2.2.2.1, z.2.2.2.2⟩) (fun z => absurd z.1 q)
                    refine M.if_eqP (pc := 54) (tgt := 61) dX8_isClash_54 (by decide) (fun c54 => ?_) (fun c54 => ?_)
                    · refine M.iconst (pc := 61) dX8_isClash_61 ?_
                      refine M.forget 2 ?_
                      dsimp only [List.set_cons_zero, List.set_cons_succ]
                      exact L62 (good3 := false) (by first | exact hR2 | (obtain ⟨q0, q1, q2⟩ := hF c54; rw [q1, q2]; exact hR2)) (by first | exact him.bad c38 _ _ _ _ | exact IM.clash ⟨hi.1, by omega⟩ htT (hF c54).1 _ _ _ _)
                    · refine M.iconst (pc := 57) dX8_isClash_57 ?_
                      refine M.goto (pc := 58) (tgt := 62) dX8_isClash_58 (by decide) ?_
                      refine M.forget 2 ?_
                      dsimp only [List.set_cons_zero, List.set_cons_succ]
                      exact L62 (good3 := true) (by first | exact (hN c54).2.1 | exact hR2) (by first | exact him.step c38 htT hn.2 (hN c54).1 (hN c54).2.2.1 (hN c54).2.2.2 | exact him.skip c38 (by rw [htb i hi.1 (by omega), c46]; decide))
          exact L29 _  (by first | assumption | omega) (by exact hRl) (by rw [c19]; exact IM.first hBE.1 hBE.2) (Nat.lt_succ_self _)
  exact L11 _ (w := 6000) (good := true) (ch := true) (by exact hr0) (by exact Or.inr ⟨rfl, hb0, he0, Or.inl rfl⟩) (by exact ⟨by omega, fun _ _ => by omega⟩) (Nat.lt_succ_self _)
set_option maxHeartbeats 4000000 in
set_option maxRecDepth 100000 in
theorem c_X8_findEnds {l : Launch} {G : GT} {m aBath aBather aMorn aText aRB aRN aLow aHigh aNeeds aLikes aHts aBook aImg aKept : Nat} {vb vn vo vm vs vt vf va vw vu vna vrb vrn vro vtr vbk vsd : Int} {vch : Bool} {gb : Int → Int} {gt : Int → Int} {gm : Int → Int} {gl : Int → Int} {gh : Int → Int} (hn : 0 ≤ vn ∧ vn ≤ 6) (hnb : 0 ≤ vb ∧ vb ≤ 2) (hc : 0 ≤ vm ∧ vm ≤ 12) (hV : HV gb vb) (hT : HVT gt vn) (hM : HM gm vm vb vn) (hRX : RX gl gh) : Con l G yX8_findEnds cX8_findEnds 1 none { frames := 4, cells := 0, slots := 0, locals := 99 } [.ref m] [(m, eO 8 [.int (iI vb), .ref aBath, .int (iI vn), .ref aBather, .int (iI vo), .int (iI vm), .ref aMorn, .int (iI vs), .ref aText, .int (iI vt), .int (iI vf), .int (iI va), .long (lI vsd), .int (iI vw), .int (iI vu), .int (iI vna), .int (iI vrb), .ref aRB, .int (iI vrn), .ref aRN, .int (iI vro), .ref aLow, .ref aHigh, .int (iI (pI (vch = true))), .ref aNeeds, .ref aLikes, .ref aHts, .int (iI vtr), .int (iI vbk), .ref aBook, .ref aImg, .ref aKept]), (aBath, eI G 8 gb), (aBather, eI G 24 gt), (aMorn, eI G 48 gm), (aLow, eI G 6 gl), (aHigh, eI G 6 gh)] (S := Bool × Bool × (Int → Int) × (Int → Int)) (fun _ => none) (fun u => [(m, eO 8 [.int (iI vb), .ref aBath, .int (iI vn), .ref aBather, .int (iI vo), .int (iI vm), .ref aMorn, .int (iI vs), .ref aText, .int (iI vt), .int (iI vf), .int (iI va), .long (lI vsd), .int (iI vw), .int (iI vu), .int (iI vna), .int (iI vrb), .ref aRB, .int (iI vrn), .ref aRN, .int (iI vro), .ref aLow, .ref aHigh, .int (iI (pI (u.2.1 = true))), .ref aNeeds, .ref aLikes, .ref aHts, .int (iI vtr), .int (iI vbk), .ref aBook, .ref aImg, .ref aKept]), (aBath, eI G 8 gb), (aBather, eI G 24 gt), (aMorn, eI G 48 gm), (aLow, eI G 6 u.2.2.1), (aHigh, eI G 6 u.2.2.2)]) (fun u => RX u.2.2.1 u.2.2.2 ∧ EndsOf vn vm (fU gt) (fV gt) (mS gm) (mL gb gm) (mG gb gm) (p2 vm - 1) u.1 u.2.2.1 u.2.2.2) := by
  refine Con.mk (by decide +kernel) [some (.ref m)] rfl (Nat.le_of_ble_eq_true rfl) rfl ?_
  intro V M EI EL EV EA
  have hp12 := p2_12 hc.2
  refine M.aloadn (pc := 0) 0 rfl rfl dX8_findEnds_0 ?_
  refine M.iconst (pc := 1) dX8_findEnds_1 ?_
  refine M.mV (pc := 2) (c_X8_isClash  (by first | assumption | omega) (by first | assumption | omega) (by first | assumption | omega) (by first | assumption | omega) (by first | assumption | omega) (by first | assumption | omega) (by first | assumption | omega) (by first | assumption | omega)) mv_X8_166 [0, 1, 2, 3, 4, 5] rfl rfl rfl 0 rfl rfl rfl rfl (Nat.le_of_ble_eq_true rfl) rfl ⟨(Nat.le_of_ble_eq_true rfl), (Nat.le_of_ble_eq_true rfl)⟩ ⟨(Nat.le_of_ble_eq_true rfl), (Nat.le_of_ble_eq_true rfl)⟩ rfl (fun _ => rfl) dX8_findEnds_2 (fun u2 hu2 => ?_)
  obtain ⟨t2, x2, l2, h2⟩ := u2
  dsimp only [putL, List.set_cons_zero, List.set_cons_succ, Option.toList, List.cons_append, List.nil_append] at hu2 ⊢
  simp only [Int.sub_zero] at hu2
  refine M.if_eqP (pc := 5) (tgt := 12) dX8_findEnds_5 (by decide) (fun c5 => ?_) (fun c5 => ?_)
  · exact EV (t2, x2, _, _) _ _ _ dX8_findEnds_12 rfl (rfl) (rfl) (by
    first
      | exact ⟨hu2.1, Or.inr (hu2.2.elim (fun z => absurd z.1 c5) id)⟩
      | exact ⟨fun k h0 h1 => by
          rcases (by omega : k < vn ∨ vn ≤ k) with z | z
          · have q1 := hu9.1 k h0 z
            have q2 := hT k h0 z
            show InR (l9 k) ∧ InR (h9 k)
            rw [q1.1, q1.2]
            exact ⟨by omega, by omega⟩
          · have q1 := hu9.2 k z
            show InR (l9 k) ∧ InR (h9 k)
            rw [q1.1, q1.2]
            exact hu2.1 k h0 h1, Or.inl ⟨c5, hu2.2.elim (fun z => z.2) (fun z => absurd (z.1.symm.trans c5) (by decide)), fun k h0 h1 => hu9.1 k h0 h1⟩⟩)
  · refine M.aloadn (pc := 8) 0 rfl rfl dX8_findEnds_8 ?_
    refine M.mV (pc := 9) (c_X8_startEnds  (by first | assumption | omega)) mv_X8_221 [0, 2, 4, 5] rfl rfl rfl 0 rfl rfl rfl rfl (Nat.le_of_ble_eq_true rfl) rfl ⟨(Nat.le_of_ble_eq_true rfl), (Nat.le_of_ble_eq_true rfl)⟩ ⟨(Nat.le_of_ble_eq_true rfl), (Nat.le_of_ble_eq_true rfl)⟩ rfl (fun _ => rfl) dX8_findEnds_9 (fun u9 hu9 => ?_)
    obtain ⟨l9, h9⟩ := u9
    dsimp only [putL, List.set_cons_zero, List.set_cons_succ, Option.toList, List.cons_append, List.nil_append] at hu9 ⊢
    exact EV (t2, x2, _, _) _ _ _ dX8_findEnds_12 rfl (rfl) (rfl) (by
    first
      | exact ⟨hu2.1, Or.inr (hu2.2.elim (fun z => absurd z.1 c5) id)⟩
      | exact ⟨fun k h0 h1 => by
          rcases (by omega : k < vn ∨ vn ≤ k) with z | z
          · have q1 := hu9.1 k h0 z
            have q2 := hT k h0 z
            show InR (l9 k) ∧ InR (h9 k)
            rw [q1.1, q1.2]
            exact ⟨by omega, by omega⟩
          · have q1 := hu9.2 k z
            show InR (l9 k) ∧ InR (h9 k)
            rw [q1.1, q1.2]
            exact hu2.1 k h0 h1, Or.inl ⟨c5, hu2.2.elim (fun z => z.2) (fun z => absurd (z.1.symm.trans c5) (by decide)), fun k h0 h1 => hu9.1 k h0 h1⟩⟩)
