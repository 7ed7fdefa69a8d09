/-! the reference's needed and away -/
theorem sub_le {P S : Int} (hP : 0 ≤ P ∧ P < 8192) (hS : 0 ≤ S ∧ S < 8192) (h : ∀ d, me P d → me S d) : P ≤ S := by
  have hb := andn_b (b := andn S P) hS.1
  have e : andn S (andn S P) = P := by
    refine mask_ext ⟨hb.1, by omega⟩ hP (fun d h0 h1 => ?_)
    rw [tb_andn, tb_andn]
    by_cases q : tb P d = true
    · have := (h d ⟨⟨h0, h1⟩, q⟩).2
      rw [q, this]; rfl
    · rw [Bool.eq_false_iff.mpr q]
      cases tb S d <;> rfl
  omega
theorem andn_me {P S : Int} (h : andn P S = 0) : ∀ d, me P d → me S d := fun d hd => ⟨hd.1, andn_0 h d hd.2⟩
theorem andn_lt {P S : Int} (hP : 0 ≤ P) (hS : 0 ≤ S ∧ S < 8192) (h : andn P S = 0) : P < 8192 := by
  have e : P.toNat < 2 ^ 13 := Nat.lt_pow_two_of_testBit _ (fun i hi => by
    have h1 := andn_0 h (i : Int)
    have h2 : tb S (i : Int) = false := tb_lt (n := 13) hS.1 (by have := p2_lit; simp [p2]; omega) (by omega) (by omega)
    refine Bool.eq_false_iff.mpr (fun z => ?_)
    have := h1 (show P.toNat.testBit ((i : Int)).toNat = true by rw [Int.toNat_natCast]; exact z)
    rw [h2] at this
    exact absurd this (by decide))
  omega
theorem hC_b {fb ft : Int → Int} {od nb n t c : Int} (hV : HV fb nb) (hT : HVT ft n) (hn : 0 ≤ n ∧ n ≤ 6) (ho : 0 ≤ od ∧ od ≤ 999) (h0 : 0 ≤ t / 64) (h1 : t / 64 < nb) : 0 ≤ hC fb ft od n t c ∧ hC fb ft od n t c ≤ 30000 := by
  have hcs : 0 ≤ caseS ft od n.toNat (t % 64) c ∧ caseS ft od n.toNat (t % 64) c ≤ 11988 := by
    have := sumT_b (f := caseF ft od c) (S := t % 64) (A := 0) (B := 1998) (by omega) (by omega) n.toNat (fun k hk _ => by
      have := (hT k (by omega) (by omega)).2.2.1
      unfold caseF
      split
      · omega
      · split <;> omega)
    unfold caseS
    omega
  have := hHei_v (s := caseS ft od n.toNat (t % 64) c) (B := 11988) hV h0 h1 (by omega : (0 : Int) ≤ 0) hcs.1 hcs.2
  unfold hC
  omega
theorem WB.cg {H : Int → Int → Int} {g g' : Int → Int} {S t w : Int} (hS : 0 ≤ S ∧ S < 8192) (he : ∀ P, P ≠ S → g P = g' P) (h : WB H g S t w) : WB H g' S t w := by
  refine ⟨h.1, fun hs => ?_⟩
  obtain ⟨h1, h2, c, h3, h4⟩ := h.2 hs
  exact ⟨h1, fun c hc => by rw [← he _ (PT_ne hS hs)]; exact h2 c hc, c, h3, by rw [← he _ (PT_ne hS hs)]; exact h4⟩
/-- what the loop over the tries has found -/
def NDI (vt : Int → Prop) (H : Int → Int → Int) (g : Int → Int) (S v : Int) (before : Int → Prop) : Prop := (v = 0 ∧ NL0 vt H S) ∨ (¬ NL0 vt H S ∧ (1 ≤ v ∧ v ≤ 1000) ∧ (v = 1000 ∨ ∃ t w, vt t ∧ SPL H t S ∧ WB H g S t w ∧ v = w + 1) ∧ ∀ t, vt t → before t → SPL H t S → ∃ w, WB H g S t w ∧ v ≤ w + 1)
theorem NDI.fin {vt : Int → Prop} {H : Int → Int → Int} {g : Int → Int} {S v : Int} {before : Int → Prop} (hS : 0 ≤ S ∧ S < 8192) (hN : NDS vt H g S) (h : NDI vt H g S v before) (hb : v ≤ 1 ∨ ∀ t, vt t → before t) : ND vt H S v := by
  rcases h with ⟨rfl, h⟩ | ⟨h0, h1, h2, h3⟩
  · exact ⟨by omega, h, fun j _ _ => by omega⟩
  · have hv : v ≠ 1000 := by
      intro e
      rcases hb with hb | hb
      · omega
      · rcases NL.t13 (vt := vt) (H := H) S with z | ⟨t, ht, hs, hp⟩
        · exact h0 z
        · obtain ⟨w, hw, hvw⟩ := h3 t ht (hb t ht) hs
          have := (hw.2 hs).1
          omega
    rcases h2 with h2 | ⟨t, w, ht, hs, hw, e⟩
    · exact absurd h2 hv
    · have hwb := (hw.2 hs).1
      have h13 : v ≤ 13 := by
        rcases (by omega : v ≤ 13 ∨ w = 13) with q | q
        · exact q
        · rcases hb with hb | hb
          · omega
          · rcases NL.t13 (vt := vt) (H := H) S with z | ⟨t', ht', hs', hp'⟩
            · exact absurd z h0
            · obtain ⟨w', hw', hvw⟩ := h3 t' ht' (hb t' ht') hs'
              have := (hw'.parts hS hN hs' (k := 12) (by omega)).mp hp'
              omega
      refine ⟨by omega, ?_, fun j j0 j1 hj => ?_⟩
      · have e2 : v.toNat = w.toNat + 1 := by omega
        rw [e2]
        exact Or.inr ⟨t, ht, hs, (hw.parts hS hN hs (k := w) (by omega)).mpr (by omega)⟩
      · obtain ⟨n, rfl⟩ := Int.eq_ofNat_of_zero_le j0
        rw [Int.toNat_natCast] at hj
        cases n with
        | zero => exact h0 hj
        | succ n =>
          rcases hj with z | ⟨t', ht', hs', hp'⟩
          · exact h0 z
          · rcases hb with hb | hb
            · omega
            · obtain ⟨w', hw', hvw⟩ := h3 t' ht' (hb t' ht') hs'
              have := (hw'.parts hS hN hs' (k := (n : Int)) (by omega)).mp (by rw [Int.toNat_natCast]; exact hp')
              omega
theorem FST.ex {vt : Int → Prop} {H : Int → Int → Int} {S v : Int} (h : ND vt H S v) (hv : v ≠ 0) (hb : ∀ t, vt t → 0 ≤ t ∧ t < 128) : ∃ t, FST vt H S v t := by
  have hex : ∃ t, GOODT vt H S v t := by
    have h2 := h.2.1
    rw [show v.toNat = (v - 1).toNat + 1 by have := h.1; omega] at h2
    rcases h2 with z | ⟨t, h3, h4, h5⟩
    · exact absurd z (h.2.2 0 (by omega) (by have := h.1; omega))
    · exact ⟨t, h3, h4, h5⟩
  have key : ∀ N : Nat, (∃ t, t < (N : Int) ∧ GOODT vt H S v t) → ∃ t, FST vt H S v t := by
    intro N
    induction N with
    | zero => rintro ⟨t, h1, h2⟩; have := hb t h2.1; omega
    | succ N ih =>
      rintro ⟨t, h1, h2⟩
      by_cases q : ∃ t, t < (N : Int) ∧ GOODT vt H S v t
      · exact ih q
      · exact ⟨t, h2, fun t' ht hg => q ⟨t', by omega, hg⟩⟩
  obtain ⟨t, ht⟩ := hex
  exact key 128 ⟨t, by have := (hb t ht.1).2; omega, ht⟩
theorem WB.good {vt : Int → Prop} {H : Int → Int → Int} {g : Int → Int} {S t v w : Int} (hS : 0 ≤ S ∧ S < 8192) (hN : NDS vt H g S) (h : ND vt H S v) (hv : v ≠ 0) (ht : vt t) (hw : WB H g S t w) : w + 1 = v ↔ GOODT vt H S v t := by
  constructor
  · intro e
    have hs : SPL H t S := Classical.byContradiction (fun z => by have := hw.1 z; have := h.1; omega)
    exact ⟨ht, hs, (hw.parts hS hN hs (k := v - 1) (by have := h.1; omega)).mpr (by omega)⟩
  · rintro ⟨_, hs, hp⟩
    have h1 := (hw.parts hS hN hs (k := v - 1) (by have := h.1; omega)).mp hp
    have hwb := (hw.2 hs).1
    refine Classical.byContradiction (fun z => h.2.2 (w + 1) (by omega) (by omega) ?_)
    rw [show (w + 1).toNat = w.toNat + 1 by omega]
    exact Or.inr ⟨t, ht, hs, (hw.parts hS hN hs (k := w) (by omega)).mpr (by omega)⟩
/-- the answer on what is needed -/
def NEED (vt : Int → Prop) (H : Int → Int → Int) (pr : Int → Bool) (S what u : Int) : Prop :=
  ((S < 0 ∨ ¬ andn S (cm pr 13) = 0) → u = -1000000001) ∧ (¬ (S < 0 ∨ ¬ andn S (cm pr 13) = 0) →
    (¬ (0 ≤ what ∧ what ≤ 2) → u = -1000000002) ∧ (0 ≤ what ∧ what ≤ 2 → ∃ v, ND vt H S v ∧ (what = 0 → u = v) ∧ (what ≠ 0 → v = 0 → u = -1) ∧
      (what ≠ 0 → v ≠ 0 → ∃ t, FST vt H S v t ∧ u = if what = 1 then t / 64 else t % 64)))
theorem NEED.one {vt : Int → Prop} {H : Int → Int → Int} {pr : Int → Bool} {S what u u' : Int} (h : NEED vt H pr S what u) (h' : NEED vt H pr S what u') : u = u' := by
  by_cases q : S < 0 ∨ ¬ andn S (cm pr 13) = 0
  · rw [h.1 q, h'.1 q]
  · by_cases r : 0 ≤ what ∧ what ≤ 2
    · obtain ⟨v, h1, h2, h3, h4⟩ := (h.2 q).2 r
      obtain ⟨v', h1', h2', h3', h4'⟩ := (h'.2 q).2 r
      have e := h1.one h1'
      subst e
      by_cases w0 : what = 0
      · rw [h2 w0, h2' w0]
      · by_cases v0 : v = 0
        · rw [h3 w0 v0, h3' w0 v0]
        · obtain ⟨t, h5, h6⟩ := h4 w0 v0
          obtain ⟨t', h5', h6'⟩ := h4' w0 v0
          have e := h5.one h5'
          subst e
          rw [h6, h6']
    · rw [(h.2 q).1 r, (h'.2 q).1 r]
/-- the answer on who is away -/
def AWAY (vt : Int → Prop) (H : Int → Int → Int) (n u : Int) : Prop :=
  let G := fun k => ∃ a b, (1 ≤ a ∧ a < b ∧ b ≤ n) ∧ PTD vt H 0 a b ∧ ¬ PTD vt H (p2 k) a b
  (u = -1 ∧ ∀ k, 0 ≤ k → k < n → ¬ G k) ∨ ((0 ≤ u ∧ u < n) ∧ G u ∧ ∀ k, 0 ≤ k → k < u → ¬ G k)
theorem AWAY.one {vt : Int → Prop} {H : Int → Int → Int} {n u u' : Int} (h : AWAY vt H n u) (h' : AWAY vt H n u') : u = u' := by
  rcases h with ⟨h1, h2⟩ | ⟨h1, h2, h3⟩ <;> rcases h' with ⟨g1, g2⟩ | ⟨g1, g2, g3⟩
  · omega
  · exact absurd g2 (h2 _ g1.1 g1.2)
  · exact absurd h2 (g2 _ h1.1 h1.2)
  · rcases (by omega : u < u' ∨ u = u' ∨ u' < u) with q | q | q
    · exact absurd h2 (g3 _ h1.1 q)
    · exact q
    · exact absurd g2 (h3 _ g1.1 q)
theorem tix_dm {n b s : Int} (hp : 2 ≤ p2 n) (hb : 0 ≤ b ∧ b < 2) (hs : 1 ≤ s ∧ s < p2 n) : tix n b s / (p2 n - 1) = b ∧ tix n b s % (p2 n - 1) = s - 1 := by
  unfold tix
  rcases (by omega : b = 0 ∨ b = 1) with e | e <;> subst e
  · rw [if_pos rfl, Int.zero_add]
    exact ⟨Int.ediv_eq_zero_of_lt (by omega) (by omega), Int.emod_eq_of_lt (by omega) (by omega)⟩
  · rw [if_neg (by omega)]
    have h := Int.ediv_emod_unique (a := p2 n - 1 + (s - 1)) (b := p2 n - 1) (r := s - 1) (q := 1) (by omega)
    exact h.mpr ⟨by omega, by omega, by omega⟩
theorem NDI.step {vt : Int → Prop} {H : Int → Int → Int} {g : Int → Int} {S v w tc : Int} {bef bef' : Int → Prop} (hv : ¬ v ≤ 1) (h : NDI vt H g S v bef) (ht : vt tc) (hw : WB H g S tc w) (hb : ∀ t, vt t → SPL H t S → bef' t → bef t ∨ t = tc) : NDI vt H g S (min (w + 1) v) bef' := by
  rcases h with ⟨h, _⟩ | ⟨h0, h1, h2, h3⟩
  · omega
  · have hwv : 0 ≤ w ∧ w ≤ 1000 ∧ (w < 1000 → SPL H tc S) := by
      by_cases q : SPL H tc S
      · have := (hw.2 q).1; exact ⟨by omega, by omega, fun _ => q⟩
      · have := hw.1 q; exact ⟨by omega, by omega, fun _ => by omega⟩
    refine Or.inr ⟨h0, by omega, ?_, fun t h4 h5 h6 => ?_⟩
    · rcases (by omega : min (w + 1) v = v ∨ (min (w + 1) v = w + 1 ∧ w < 1000)) with q | q
      · rw [q]; exact h2
      · rw [q.1]; exact Or.inr ⟨tc, w, ht, hwv.2.2 q.2, hw, rfl⟩
    · rcases hb t h4 h6 h5 with q | q
      · obtain ⟨w', h7, h8⟩ := h3 t h4 q h6
        exact ⟨w', h7, by omega⟩
      · rw [q]; exact ⟨w, hw, by omega⟩
theorem spl_0 {fb ft : Int → Int} {od n t S : Int} (h : SPL (hC fb ft od n) t S) : t % 64 ≠ 0 := by
  intro e
  obtain ⟨a, b, _, _, hab⟩ := h
  exact hab (hC_0 _ _ _ _ e _ _)
theorem p2_lt64 {k : Int} (h0 : 0 ≤ k) (h1 : k < 6) : 1 ≤ p2 k ∧ p2 k < 64 := by
  have := p2_lit
  rcases (by omega : k = 0 ∨ k = 1 ∨ k = 2 ∨ k = 3 ∨ k = 4 ∨ k = 5) with e | e | e | e | e | e <;> rw [e] <;> omega
theorem VTt.tix {vb vn t : Int} (h : VTt vb vn t) (hs : t % 64 ≠ 0) : (0 ≤ t / 64 ∧ t / 64 < vb) ∧ (1 ≤ t % 64 ∧ t % 64 < p2 vn) := ⟨⟨by have := h.1; omega, h.2.1⟩, by omega, h.2.2⟩
theorem VTt.mk {vb vn b s : Int} (hvb : vb ≤ 2) (hp : p2 vn ≤ 64) (hb : 0 ≤ b ∧ b < vb) (hs : 1 ≤ s ∧ s < p2 vn) : VTt vb vn (b * 64 + s) := ⟨⟨by omega, by omega⟩, by omega, by omega⟩
set_option maxHeartbeats 4000000 in
set_option maxRecDepth 100000 in
theorem c_X8_findNeeds {l : Launch} {G : GT} {m aBath aBather aMorn aText aRB aRN aLow aHigh aNeeds aLikes aHts aBook aImg aKept : Nat} {vb vn vo vm vs vt vf va vw vu vna vrb vrn vro vtr vbk vsd : Int} {vch : Bool} {gb : Int → Int} {gt : Int → Int} {gn : Int → Int} {gk : Int → Int} {gq : Int → Int} {S0 : Int} (hn : 0 ≤ vn ∧ vn ≤ 6) (hnb : 0 ≤ vb ∧ vb ≤ 2) (hV : HV gb vb) (hT : HVT gt vn) (ho : 0 ≤ vo ∧ vo ≤ 999) (hS0 : SET (prB vn) S0) : Con l G yX8_findNeeds cX8_findNeeds 5 none { frames := 6, cells := 0, slots := 0, locals := 142 } [.ref m, .int (iI S0)] [(m, eO 8 [.int (iI vb), .ref aBath, .int (iI vn), .ref aBather, .int (iI vo), .int (iI vm), .ref aMorn, .int (iI vs), .ref aText, .int (iI vt), .int (iI vf), .int (iI va), .long (lI vsd), .int (iI vw), .int (iI vu), .int (iI vna), .int (iI vrb), .ref aRB, .int (iI vrn), .ref aRN, .int (iI vro), .ref aLow, .ref aHigh, .int (iI (pI (vch = true))), .ref aNeeds, .ref aLikes, .ref aHts, .int (iI vtr), .int (iI vbk), .ref aBook, .ref aImg, .ref aKept]), (aBath, eI G 8 gb), (aBather, eI G 24 gt), (aNeeds, eI G 8192 gn), (aLikes, eI G 13 gk), (aHts, eI G 1638 gq)] (S := Int × (Int → Int) × (Int → Int) × (Int → Int)) (fun _ => none) (fun u => [(m, eO 8 [.int (iI vb), .ref aBath, .int (iI vn), .ref aBather, .int (iI vo), .int (iI vm), .ref aMorn, .int (iI vs), .ref aText, .int (iI vt), .int (iI vf), .int (iI va), .long (lI vsd), .int (iI vw), .int (iI vu), .int (iI vna), .int (iI vrb), .ref aRB, .int (iI vrn), .ref aRN, .int (iI vro), .ref aLow, .ref aHigh, .int (iI (pI (vch = true))), .ref aNeeds, .ref aLikes, .ref aHts, .int (iI u.1), .int (iI vbk), .ref aBook, .ref aImg, .ref aKept]), (aBath, eI G 8 gb), (aBather, eI G 24 gt), (aNeeds, eI G 8192 u.2.2.2), (aLikes, eI G 13 u.2.1), (aHts, eI G 1638 u.2.2.1)]) (fun u => u.1 = (if vb = 0 then 0 else tix vn (vb - 1) (p2 vn)) ∧ HQ vb vn (hC gb gt vo vn) (prB vn) u.2.2.1 u.1 ∧ ∀ P, (0 ≤ P ∧ P < 8192) → (∀ d, me P d → me S0 d) → ND (VTt vb vn) (hC gb gt vo vn) P (u.2.2.2 P)) := by
  refine Con.mk (by decide +kernel) [some (.ref m), some (.int (iI S0)), none, none, none] rfl (Nat.le_of_ble_eq_true rfl) rfl ?_
  intro V M EI EL EV EA
  have hSb := hS0.1
  have hp6 := p2_6 hn.2
  have hp1 := (p2_b (by omega : vn ≤ 13)).1
  refine M.aloadn (pc := 0) 0 rfl rfl dX8_findNeeds_0 ?_
  refine M.mV (pc := 1) (c_X8_findTries  (by first | assumption | omega) (by first | assumption | omega) (by first | assumption | omega) (by first | assumption | omega) (by first | assumption | omega)) mv_X8_271 [0, 1, 2, 4, 5] rfl rfl rfl 0 rfl rfl rfl rfl (Nat.le_of_ble_eq_true rfl) rfl ⟨(Nat.le_of_ble_eq_true rfl), (Nat.le_of_ble_eq_true rfl)⟩ ⟨(Nat.le_of_ble_eq_true rfl), (Nat.le_of_ble_eq_true rfl)⟩ rfl (fun _ => rfl) dX8_findNeeds_1 (fun u1 hu1 => ?_)
  obtain ⟨t1, k1, q1⟩ := u1
  dsimp only [putL, List.set_cons_zero, List.set_cons_succ, Option.toList, List.cons_append, List.nil_append] at hu1 ⊢
  obtain ⟨hT1, hQ1, hL1⟩ := hu1
  have hTb : 0 ≤ t1 ∧ t1 ≤ 126 := by
    have e : t1 = (if vb = 0 then 0 else tix vn (vb - 1) (p2 vn)) := hT1
    rw [e]
    split
    · omega
    · unfold tix
      split <;> omega
  refine M.iconst (pc := 4) dX8_findNeeds_4 ?_
  refine M.istoren (pc := 5) 2 rfl (Nat.le_of_ble_eq_true rfl) rfl dX8_findNeeds_5 ?_
  dsimp only [List.set_cons_zero, List.set_cons_succ]
  have L6 : ∀ (fu : Nat) {s : Int} {n1 : Int → Int}, (0 ≤ s ∧ s ≤ S0 + 1) → (∀ P, (0 ≤ P ∧ P < 8192) → P < s → (∀ d, me P d → me S0 d) → ND (VTt vb vn) (hC gb gt vo vn) P (n1 P)) → (S0 + 1 - s).toNat < fu → V 0 0 6 [(m, eO 8 [.int (iI vb), .ref aBath, .int (iI vn), .ref aBather, .int (iI vo), .int (iI vm), .ref aMorn, .int (iI vs), .ref aText, .int (iI vt), .int (iI vf), .int (iI va), .long (lI vsd), .int (iI vw), .int (iI vu), .int (iI vna), .int (iI vrb), .ref aRB, .int (iI vrn), .ref aRN, .int (iI vro), .ref aLow, .ref aHigh, .int (iI (pI (vch = true))), .ref aNeeds, .ref aLikes, .ref aHts, .int (iI t1), .int (iI vbk), .ref aBook, .ref aImg, .ref aKept]), (aBath, eI G 8 gb), (aBather, eI G 24 gt), (aNeeds, eI G 8192 n1), (aLikes, eI G 13 k1), (aHts, eI G 1638 q1)] [some (.ref m), some (.int (iI S0)), some (.int (iI s)), none, none] [] := by
    intro fu
    induction fu with
    | zero => intro s n1 hs h1n hm; exact absurd hm (Nat.not_lt_zero _)
    | succ fu ih6 =>
      intro s n1 hs h1n hm6
      refine M.iloadn (pc := 6) 2 rfl rfl dX8_findNeeds_6 ?_
      refine M.iloadn (pc := 7) 1 rfl rfl dX8_findNeeds_7 ?_
      refine M.icmp_gt (pc := 8) (tgt := 110) dX8_findNeeds_8 (by decide) (by omega) (by omega) (fun c8 => ?_) (fun c8 => ?_)
      · exact EV (t1, k1, q1, n1) _ _ _ dX8_findNeeds_110 rfl (rfl) (rfl) (⟨hT1, hQ1, fun P h0 h1 => h1n P h0 (by have := sub_le h0 hSb h1; omega) h1⟩)
      · have L104 : ∀ {n3 : Int → Int}, (∀ P, (0 ≤ P ∧ P < 8192) → P < s + 1 → (∀ d, me P d → me S0 d) → ND (VTt vb vn) (hC gb gt vo vn) P (n3 P)) → V 0 0 104 [(m, eO 8 [.int (iI vb), .ref aBath, .int (iI vn), .ref aBather, .int (iI vo), .int (iI vm), .ref aMorn, .int (iI vs), .ref aText, .int (iI vt), .int (iI vf), .int (iI va), .long (lI vsd), .int (iI vw), .int (iI vu), .int (iI vna), .int (iI vrb), .ref aRB, .int (iI vrn), .ref aRN, .int (iI vro), .ref aLow, .ref aHigh, .int (iI (pI (vch = true))), .ref aNeeds, .ref aLikes, .ref aHts, .int (iI t1), .int (iI vbk), .ref aBook, .ref aImg, .ref aKept]), (aBath, eI G 8 gb), (aBather, eI G 24 gt), (aNeeds, eI G 8192 n3), (aLikes, eI G 13 k1), (aHts, eI G 1638 q1)] [some (.ref m), some (.int (iI S0)), some (.int (iI s)), none, none] [] := by
          intro n3 h3n
          refine M.iinc (pc := 104) (i := 2) rfl rfl dX8_findNeeds_104 ?_
          dsimp only [List.set_cons_zero, List.set_cons_succ]
          refine M.goto (pc := 107) (tgt := 6) dX8_findNeeds_107 (by decide) ?_
          exact ih6  (by first | assumption | omega) (by exact h3n) (by omega)
        refine M.iloadn (pc := 11) 2 rfl rfl dX8_findNeeds_11 ?_
        refine M.iloadn (pc := 12) 1 rfl rfl dX8_findNeeds_12 ?_
        refine M.iconst (pc := 13) dX8_findNeeds_13 ?_
        refine M.ixor (pc := 14) (iI_of _) dX8_findNeeds_14 ?_
        refine M.iand (pc := 15) (andn_ok hs.1 hSb.1) dX8_findNeeds_15 ?_
        have hab := andn_b (b := S0) hs.1
        refine M.if_ne (pc := 16) (tgt := 104) dX8_findNeeds_16 (by decide) (by omega) (fun c16 => ?_) (fun c16 => ?_)
        · exact L104 (n3 := n1) (by intro P h0 h1 h2; rcases (by omega : P < s ∨ P = s) with q | q; exact h1n P h0 q h2; exact absurd (andn_z ⟨hs.1, by omega⟩ (fun d d0 d1 d2 => (h2 d (by rw [q]; exact ⟨⟨d0, d1⟩, d2⟩)).2)) c16)
        · have L39 : ∀ {v0 : Int}, ((v0 = 0 ∧ NL0 (VTt vb vn) (hC gb gt vo vn) s) ∨ (v0 = 1000 ∧ ¬ NL0 (VTt vb vn) (hC gb gt vo vn) s)) → V 0 0 39 [(m, eO 8 [.int (iI vb), .ref aBath, .int (iI vn), .ref aBather, .int (iI vo), .int (iI vm), .ref aMorn, .int (iI vs), .ref aText, .int (iI vt), .int (iI vf), .int (iI va), .long (lI vsd), .int (iI vw), .int (iI vu), .int (iI vna), .int (iI vrb), .ref aRB, .int (iI vrn), .ref aRN, .int (iI vro), .ref aLow, .ref aHigh, .int (iI (pI (vch = true))), .ref aNeeds, .ref aLikes, .ref aHts, .int (iI t1), .int (iI vbk), .ref aBook, .ref aImg, .ref aKept]), (aBath, eI G 8 gb), (aBather, eI G 24 gt), (aNeeds, eI G 8192 n1), (aLikes, eI G 13 k1), (aHts, eI G 1638 q1)] [some (.ref m), some (.int (iI S0)), some (.int (iI s)), none, none] [.int (iI v0), .int (iI s), .ref aNeeds] := by
            intro v0 hv0
            refine M.iast (pc := 39) 3 rfl (by omega) (by omega) dX8_findNeeds_39 ?_
            dsimp only [List.set_cons_zero, List.set_cons_succ]
            have hSS : SET (prB vn) s := ⟨⟨by omega, by omega⟩, fun d hd => hS0.2 d (andn_me c16 d hd)⟩
            have hNDS : NDS (VTt vb vn) (hC gb gt vo vn) n1 s := fun P h0 h1 h2 => h1n P h0 (by have := sub_le h0 hSS.1 h1; omega) (fun d hd => andn_me c16 d (h1 d hd))
            refine M.iconst (pc := 40) dX8_findNeeds_40 ?_
            refine M.istoren (pc := 41) 3 rfl (Nat.le_of_ble_eq_true rfl) rfl dX8_findNeeds_41 ?_
            dsimp only [List.set_cons_zero, List.set_cons_succ]
            have L42 : ∀ (fu : Nat) {t : Int} {n2 : Int → Int}, (0 ≤ t ∧ t ≤ t1) → (∀ P, P ≠ s → n2 P = n1 P) → (NDI (VTt vb vn) (hC gb gt vo vn) n1 s (n2 s) (fun tc => tix vn (tc / 64) (tc % 64) < t)) → (t1 - t).toNat < fu → V 0 0 42 [(m, eO 8 [.int (iI vb), .ref aBath, .int (iI vn), .ref aBather, .int (iI vo), .int (iI vm), .ref aMorn, .int (iI vs), .ref aText, .int (iI vt), .int (iI vf), .int (iI va), .long (lI vsd), .int (iI vw), .int (iI vu), .int (iI vna), .int (iI vrb), .ref aRB, .int (iI vrn), .ref aRN, .int (iI vro), .ref aLow, .ref aHigh, .int (iI (pI (vch = true))), .ref aNeeds, .ref aLikes, .ref aHts, .int (iI t1), .int (iI vbk), .ref aBook, .ref aImg, .ref aKept]), (aBath, eI G 8 gb), (aBather, eI G 24 gt), (aNeeds, eI G 8192 n2), (aLikes, eI G 13 k1), (aHts, eI G 1638 q1)] [some (.ref m), some (.int (iI S0)), some (.int (iI s)), some (.int (iI t)), none] [] := by
              intro fu
              induction fu with
              | zero => intro t n2 ht h2n hI hm; exact absurd hm (Nat.not_lt_zero _)
              | succ fu ih42 =>
                intro t n2 ht h2n hI hm42
                refine M.iloadn (pc := 42) 3 rfl rfl dX8_findNeeds_42 ?_
                refine M.aloadn (pc := 43) 0 rfl rfl dX8_findNeeds_43 ?_
                refine M.getf (pc := 44) fg_X8_268 0 rfl rfl dX8_findNeeds_44 ?_
                refine M.icmp_ge (pc := 47) (tgt := 104) dX8_findNeeds_47 (by decide) (by omega) (by omega) (fun c47 => ?_) (fun c47 => ?_)
                · refine M.forget 3 ?_
                  dsimp only [List.set_cons_zero, List.set_cons_succ]
                  exact L104 (n3 := n2) (by intro P h0 h1 h2; rcases (by omega : P < s ∨ P = s) with q | q; rw [h2n P (by omega)]; exact h1n P h0 q h2; rw [q]; exact hI.fin hSS.1 hNDS (Or.inr (fun tc h3 => by have := h3.1; have := h3.2; have e : t = (if vb = 0 then 0 else tix vn (vb - 1) (p2 vn)) := (by omega); rw [e]; split; omega; unfold tix; split <;> split <;> omega)))
                · refine M.aloadn (pc := 50) 0 rfl rfl dX8_findNeeds_50 ?_
                  refine M.getf (pc := 51) fg_X8_41 0 rfl rfl dX8_findNeeds_51 ?_
                  refine M.iloadn (pc := 54) 2 rfl rfl dX8_findNeeds_54 ?_
                  refine M.iald (pc := 55) 3 rfl (by omega) (by omega) dX8_findNeeds_55 ?_
                  refine M.iconst (pc := 56) dX8_findNeeds_56 ?_
                  have hnv0 : 0 ≤ n2 s ∧ n2 s ≤ 1000 := by rcases hI with z | z <;> omega
                  refine M.icmp_le (pc := 57) (tgt := 104) dX8_findNeeds_57 (by decide) (by omega) (by omega) (fun c57 => ?_) (fun c57 => ?_)
                  · refine M.forget 3 ?_
                    dsimp only [List.set_cons_zero, List.set_cons_succ]
                    exact L104 (n3 := n2) (by intro P h0 h1 h2; rcases (by omega : P < s ∨ P = s) with q | q; rw [h2n P (by omega)]; exact h1n P h0 q h2; rw [q]; exact hI.fin hSS.1 hNDS (Or.inl c57))
                  · have c57n : ¬ n2 s ≤ 1 := by omega
                    have hI2 := hI.resolve_left (fun z => by have := z.1; omega)
                    have hs0 : s ≠ 0 := fun e => hI2.1 (fun c d hc => absurd hc.2 (by rw [e, tb_0]; decide))
                    refine M.aloadn (pc := 60) 0 rfl rfl dX8_findNeeds_60 ?_
                    refine M.iloadn (pc := 61) 3 rfl rfl dX8_findNeeds_61 ?_
                    refine M.iloadn (pc := 62) 2 rfl rfl dX8_findNeeds_62 ?_
                    obtain ⟨b2, s2, hb2, hs2, ht2⟩ := tix_inv (vb := vb) (vn := vn) ht.1 hnb hp1 (by omega)
                    have htx := tix_in hnb hb2 hs2
                    have h126 : tix vn b2 s2 < 126 := by unfold tix; split <;> omega
                    refine M.mV (pc := 63) (c_X8_worstBy (b := b2) (s := s2) (gb := gb) (gt := gt) (vb := vb) (by exact hSS) (by exact hs0) (by exact ⟨ht2, by omega⟩) (by intro c h0 h1 h2; have q := hQ1 b2 s2 c hb2 hs2 ⟨h0, h1⟩ (by omega); rw [if_pos h2] at q; rw [ht2]; exact ⟨q, hC_b hV hT hn ho (by omega) (by omega)⟩) (by intro P h0 h1 h2; rw [h2n P h2]; exact h1n P h0 (by have := sub_le h0 hSS.1 h1; omega) (fun d hd => andn_me c16 d (h1 d hd)))) mv_X8_277 [0, 3, 5] rfl rfl rfl 0 rfl rfl rfl rfl (Nat.le_of_ble_eq_true rfl) rfl ⟨(Nat.le_of_ble_eq_true rfl), (Nat.le_of_ble_eq_true rfl)⟩ ⟨(Nat.le_of_ble_eq_true rfl), (Nat.le_of_ble_eq_true rfl)⟩ rfl (fun _ => rfl) dX8_findNeeds_63 (fun u63 hu63 => ?_)
                    dsimp only [putL, List.set_cons_zero, List.set_cons_succ, Option.toList, List.cons_append, List.nil_append] at hu63 ⊢
                    have hwb1 := WB.cg hSS.1 h2n hu63
                    have hwv : 0 ≤ u63 ∧ u63 ≤ 1000 := by
                      by_cases q : SPL (hC gb gt vo vn) (b2 * 64 + s2) s
                      · have := (hwb1.2 q).1; omega
                      · have := hwb1.1 q; omega
                    have hnv : 0 ≤ n2 s ∧ n2 s ≤ 1000 := by have := hI2.2.1; omega
                    have hbe : ∀ tc, (VTt vb vn) tc → SPL (hC gb gt vo vn) tc s → tix vn (tc / 64) (tc % 64) < t + 1 → tix vn (tc / 64) (tc % 64) < t ∨ tc = b2 * 64 + s2 := by
                      intro tc h3 h4 h5
                      have q := VTt.tix h3 (spl_0 h4)
                      have w1 := tix_lt (vn := vn) (b := tc / 64) (s := tc % 64) (b2 := b2) (s2 := s2) (by omega) (by omega) q.2 hs2 hp6.2
                      have w2 := tix_lt (vn := vn) (b := b2) (s := s2) (b2 := tc / 64) (s2 := tc % 64) (by omega) (by omega) hs2 q.2 hp6.2
                      by_cases w : tix vn (tc / 64) (tc % 64) < t
                      · exact Or.inl w
                      · exact Or.inr (by omega)
                    refine M.iconst (pc := 66) dX8_findNeeds_66 ?_
                    refine M.iadd (pc := 67) dX8_findNeeds_67 ?_
                    refine M.istore (pc := 68) (i := 4) (Nat.le_of_ble_eq_true rfl) rfl dX8_findNeeds_68 ?_
                    dsimp only [List.set_cons_zero, List.set_cons_succ]
                    have L97 : ∀ {v1 : Int}, (v1 = min (u63 + 1) (n2 s)) → V 0 0 97 [(m, eO 8 [.int (iI vb), .ref aBath, .int (iI vn), .ref aBather, .int (iI vo), .int (iI vm), .ref aMorn, .int (iI vs), .ref aText, .int (iI vt), .int (iI vf), .int (iI va), .long (lI vsd), .int (iI vw), .int (iI vu), .int (iI vna), .int (iI vrb), .ref aRB, .int (iI vrn), .ref aRN, .int (iI vro), .ref aLow, .ref aHigh, .int (iI (pI (vch = true))), .ref aNeeds, .ref aLikes, .ref aHts, .int (iI t1), .int (iI vbk), .ref aBook, .ref aImg, .ref aKept]), (aBath, eI G 8 gb), (aBather, eI G 24 gt), (aNeeds, eI G 8192 n2), (aLikes, eI G 13 k1), (aHts, eI G 1638 q1)] [some (.ref m), some (.int (iI S0)), some (.int (iI s)), some (.int (iI t)), some (.int (iI (u63 + 1)))] [.int (iI v1), .int (iI s), .ref aNeeds] := by
                      intro v1 hv1
                      refine M.iast (pc := 97) 3 rfl (by omega) (by omega) dX8_findNeeds_97 ?_
                      dsimp only [List.set_cons_zero, List.set_cons_succ]
                      refine M.iinc (pc := 98) (i := 3) rfl rfl dX8_findNeeds_98 ?_
                      dsimp only [List.set_cons_zero, List.set_cons_succ]
                      refine M.goto (pc := 101) (tgt := 42) dX8_findNeeds_101 (by decide) ?_
                      refine M.forget 4 ?_
                      dsimp only [List.set_cons_zero, List.set_cons_succ]
                      exact ih42  (by first | assumption | omega) (by intro P h; rw [upZ_n h]; exact h2n P h) (by rw [upZ_s, hv1]; exact hI.step c57n (VTt.mk hnb.2 hp6.2 hb2 hs2) hwb1 hbe) (by clear hI2; omega)
                    refine M.aloadn (pc := 70) 0 rfl rfl dX8_findNeeds_70 ?_
                    refine M.getf (pc := 71) fg_X8_41 0 rfl rfl dX8_findNeeds_71 ?_
                    refine M.iloadn (pc := 74) 2 rfl rfl dX8_findNeeds_74 ?_
                    refine M.iload (pc := 75) (i := 4) rfl dX8_findNeeds_75 ?_
                    refine M.aloadn (pc := 77) 0 rfl rfl dX8_findNeeds_77 ?_
                    refine M.getf (pc := 78) fg_X8_41 0 rfl rfl dX8_findNeeds_78 ?_
                    refine M.iloadn (pc := 81) 2 rfl rfl dX8_findNeeds_81 ?_
                    refine M.iald (pc := 82) 3 rfl (by omega) (by omega) dX8_findNeeds_82 ?_
                    refine M.icmp_ge (pc := 83) (tgt := 91) dX8_findNeeds_83 (by decide) (by omega) (by omega) (fun c83 => ?_) (fun c83 => ?_)
                    · refine M.aloadn (pc := 91) 0 rfl rfl dX8_findNeeds_91 ?_
                      refine M.getf (pc := 92) fg_X8_41 0 rfl rfl dX8_findNeeds_92 ?_
                      refine M.iloadn (pc := 95) 2 rfl rfl dX8_findNeeds_95 ?_
                      refine M.iald (pc := 96) 3 rfl (by omega) (by omega) dX8_findNeeds_96 ?_
                      exact L97  (by omega)
                    · refine M.iload (pc := 86) (i := 4) rfl dX8_findNeeds_86 ?_
                      refine M.goto (pc := 88) (tgt := 97) dX8_findNeeds_88 (by decide) ?_
                      exact L97  (by omega)
            exact L42 _  (by first | assumption | omega) (by intro P h; exact upZ_n h) (by rw [upZ_s]; rcases hv0 with z | z; exact Or.inl z; exact Or.inr ⟨z.2, by omega, Or.inl z.1, fun tc h1 h2 h3 => absurd h2 (by have := VTt.tix h1 (spl_0 h3); have := tix_in hnb this.1 this.2; omega)⟩) (Nat.lt_succ_self _)
          refine M.aloadn (pc := 19) 0 rfl rfl dX8_findNeeds_19 ?_
          refine M.getf (pc := 20) fg_X8_41 0 rfl rfl dX8_findNeeds_20 ?_
          refine M.iloadn (pc := 23) 2 rfl rfl dX8_findNeeds_23 ?_
          refine M.aloadn (pc := 24) 0 rfl rfl dX8_findNeeds_24 ?_
          refine M.iloadn (pc := 25) 2 rfl rfl dX8_findNeeds_25 ?_
          refine M.mV (pc := 26) (c_X8_isKnown  (by exact ⟨⟨by omega, by omega⟩, fun d hd => hS0.2 d (andn_me c16 d hd)⟩) (by exact hL1)) mv_X8_274 [0, 4] rfl rfl rfl 0 rfl rfl rfl rfl (Nat.le_of_ble_eq_true rfl) rfl ⟨(Nat.le_of_ble_eq_true rfl), (Nat.le_of_ble_eq_true rfl)⟩ ⟨(Nat.le_of_ble_eq_true rfl), (Nat.le_of_ble_eq_true rfl)⟩ rfl (fun _ => rfl) dX8_findNeeds_26 (fun u26 hu26 => ?_)
          dsimp only [putL, List.set_cons_zero, List.set_cons_succ, Option.toList, List.cons_append, List.nil_append] at hu26 ⊢
          refine M.if_eqP (pc := 29) (tgt := 36) dX8_findNeeds_29 (by decide) (fun c29 => ?_) (fun c29 => ?_)
          · refine M.sipush (pc := 36) (by decide +kernel) dX8_findNeeds_36 ?_
            exact L39 (v0 := 1000) (by exact Or.inr ⟨rfl, fun z => c29 (hu26.mpr z)⟩)
          · refine M.iconst (pc := 32) dX8_findNeeds_32 ?_
            refine M.goto (pc := 33) (tgt := 39) dX8_findNeeds_33 (by decide) ?_
            exact L39 (v0 := 0) (by exact Or.inl ⟨rfl, hu26.mp c29⟩)
  exact L6 _  (by first | assumption | omega) (by intro P h0 h1; omega) (Nat.lt_succ_self _)
set_option maxHeartbeats 4000000 in
set_option maxRecDepth 100000 in
theorem c_X8_needed {l : Launch} {G : GT} {m aBath aBather aMorn aText aRB aRN aLow aHigh aNeeds aLikes aHts aBook aImg aKept : Nat} {vb vn vo vm vs vt vf va vw vu vna vrb vrn vro vtr vbk vsd : Int} {vch : Bool} {gb : Int → Int} {gt : Int → Int} {gn : Int → Int} {gk : Int → Int} {gq : Int → Int} {S0 w : Int} (hn : 0 ≤ vn ∧ vn ≤ 6) (hnb : 0 ≤ vb ∧ vb ≤ 2) (hV : HV gb vb) (hT : HVT gt vn) (ho : 0 ≤ vo ∧ vo ≤ 999) (hSi : InR S0) (hwi : InR w) : Con l G yX8_needed cX8_needed 5 (some .int) { frames := 7, cells := 0, slots := 0, locals := 166 } [.ref m, .int (iI S0), .int (iI w)] [(m, eO 8 [.int (iI vb), .ref aBath, .int (iI vn), .ref aBather, .int (iI vo), .int (iI vm), .ref aMorn, .int (iI vs), .ref aText, .int (iI vt), .int (iI vf), .int (iI va), .long (lI vsd), .int (iI vw), .int (iI vu), .int (iI vna), .int (iI vrb), .ref aRB, .int (iI vrn), .ref aRN, .int (iI vro), .ref aLow, .ref aHigh, .int (iI (pI (vch = true))), .ref aNeeds, .ref aLikes, .ref aHts, .int (iI vtr), .int (iI vbk), .ref aBook, .ref aImg, .ref aKept]), (aBath, eI G 8 gb), (aBather, eI G 24 gt), (aNeeds, eI G 8192 gn), (aLikes, eI G 13 gk), (aHts, eI G 1638 gq)] (S := Int × Int × (Int → Int) × (Int → Int) × (Int → Int)) (fun u => some (.int (iI u.1))) (fun u => [(m, eO 8 [.int (iI vb), .ref aBath, .int (iI vn), .ref aBather, .int (iI vo), .int (iI vm), .ref aMorn, .int (iI vs), .ref aText, .int (iI vt), .int (iI vf), .int (iI va), .long (lI vsd), .int (iI vw), .int (iI vu), .int (iI vna), .int (iI vrb), .ref aRB, .int (iI vrn), .ref aRN, .int (iI vro), .ref aLow, .ref aHigh, .int (iI (pI (vch = true))), .ref aNeeds, .ref aLikes, .ref aHts, .int (iI u.2.1), .int (iI vbk), .ref aBook, .ref aImg, .ref aKept]), (aBath, eI G 8 gb), (aBather, eI G 24 gt), (aNeeds, eI G 8192 u.2.2.2.2), (aLikes, eI G 13 u.2.2.1), (aHts, eI G 1638 u.2.2.2.1)]) (fun u => NEED (VTt vb vn) (hC gb gt vo vn) (prB vn) S0 w u.1) := by
  refine Con.mk (by decide +kernel) [some (.ref m), some (.int (iI S0)), some (.int (iI w)), none, none] rfl (Nat.le_of_ble_eq_true rfl) rfl ?_
  intro V M EI EL EV EA
  have hcb := cm_13b (prB vn)
  have hp6 := p2_6 hn.2
  refine M.iloadn (pc := 0) 1 rfl rfl dX8_needed_0 ?_
  refine M.if_lt (pc := 1) (tgt := 15) dX8_needed_1 (by decide) (by omega) (fun c1 => ?_) (fun c1 => ?_)
  · refine M.ldc (pc := 15) (-1000000001) lc_X8_173 (by decide +kernel) dX8_needed_15 ?_
    exact EI (-1000000001, vtr, gk, gq, gn) _ _ _ _ dX8_needed_17 (Or.inl rfl) (rfl) (rfl) (⟨fun _ => rfl, fun z => absurd (by first | exact Or.inl c1 | exact Or.inr c12) z⟩)
  · have hab := andn_b (b := cm (prB vn) 13) (show 0 ≤ S0 by omega)
    refine M.iloadn (pc := 4) 1 rfl rfl dX8_needed_4 ?_
    refine M.aloadn (pc := 5) 0 rfl rfl dX8_needed_5 ?_
    refine M.pV (pc := 6) (c_X8_allCases  (by first | assumption | omega)) mv_X8_280 [0] rfl rfl rfl 0 rfl rfl rfl rfl (Nat.le_of_ble_eq_true rfl) rfl ⟨(Nat.le_of_ble_eq_true rfl), (Nat.le_of_ble_eq_true rfl)⟩ ⟨(Nat.le_of_ble_eq_true rfl), (Nat.le_of_ble_eq_true rfl)⟩ rfl dX8_needed_6 ?_
    refine M.iconst (pc := 9) dX8_needed_9 ?_
    refine M.ixor (pc := 10) (iI_of _) dX8_needed_10 ?_
    refine M.iand (pc := 11) (andn_ok (by omega) hcb.1) dX8_needed_11 ?_
    refine M.if_eq (pc := 12) (tgt := 18) dX8_needed_12 (by decide) (by omega) (fun c12 => ?_) (fun c12 => ?_)
    · 
      refine M.iloadn (pc := 18) 2 rfl rfl dX8_needed_18 ?_
      refine M.i2l (pc := 19) (by omega) dX8_needed_19 ?_
      refine M.lconst (pc := 20) 0 (by decide +kernel) dX8_needed_20 ?_
      refine M.ldc2 (pc := 21) (2) lc_X8_283 (by decide +kernel) dX8_needed_21 ?_
      refine M.pS (pc := 24) (c_X8_in  (by first | assumption | omega) (by first | assumption | omega) (by first | assumption | omega)) ms_X8_63 [] rfl rfl rfl rfl (Nat.le_of_ble_eq_true rfl) rfl ⟨(Nat.le_of_ble_eq_true rfl), (Nat.le_of_ble_eq_true rfl)⟩ ⟨(Nat.le_of_ble_eq_true rfl), (Nat.le_of_ble_eq_true rfl)⟩ rfl dX8_needed_24 ?_
      refine M.if_neP (pc := 27) (tgt := 33) dX8_needed_27 (by decide) (fun c27 => ?_) (fun c27 => ?_)
      · have hcs : ¬ (S0 < 0 ∨ ¬ andn S0 (cm (prB vn) 13) = 0) := fun z => z.elim (fun z => by omega) (fun z => z c12)
        have hin : 0 ≤ w ∧ w ≤ 2 := by first | exact c27 | exact of_decide_eq_true c27 | (simp at c27; omega)
        have hSS : SET (prB vn) S0 := ⟨⟨by omega, andn_lt (by omega) hcb c12⟩, fun d hd => by have := andn_me c12 d hd; rw [← cm_13 (prB vn) hd.1.1 hd.1.2]; exact this.2⟩
        have hSb := hSS.1
        refine M.aloadn (pc := 33) 0 rfl rfl dX8_needed_33 ?_
        refine M.iloadn (pc := 34) 1 rfl rfl dX8_needed_34 ?_
        refine M.mV (pc := 35) (c_X8_findNeeds  (by first | assumption | omega) (by first | assumption | omega) (by first | assumption | omega) (by first | assumption | omega) (by first | assumption | omega) (by exact hSS)) mv_X8_285 [0, 1, 2, 3, 4, 5] rfl rfl rfl 0 rfl rfl rfl rfl (Nat.le_of_ble_eq_true rfl) rfl ⟨(Nat.le_of_ble_eq_true rfl), (Nat.le_of_ble_eq_true rfl)⟩ ⟨(Nat.le_of_ble_eq_true rfl), (Nat.le_of_ble_eq_true rfl)⟩ rfl (fun _ => rfl) dX8_needed_35 (fun u35 hu35 => ?_)
        obtain ⟨t35, k35, q35, n35⟩ := u35
        dsimp only [putL, List.set_cons_zero, List.set_cons_succ, Option.toList, List.cons_append, List.nil_append] at hu35 ⊢
        have L65 : ∀ {r : Int}, (NEED (VTt vb vn) (hC gb gt vo vn) (prB vn) S0 w r) → V 0 0 65 [(m, eO 8 [.int (iI vb), .ref aBath, .int (iI vn), .ref aBather, .int (iI vo), .int (iI vm), .ref aMorn, .int (iI vs), .ref aText, .int (iI vt), .int (iI vf), .int (iI va), .long (lI vsd), .int (iI vw), .int (iI vu), .int (iI vna), .int (iI vrb), .ref aRB, .int (iI vrn), .ref aRN, .int (iI vro), .ref aLow, .ref aHigh, .int (iI (pI (vch = true))), .ref aNeeds, .ref aLikes, .ref aHts, .int (iI t35), .int (iI vbk), .ref aBook, .ref aImg, .ref aKept]), (aBath, eI G 8 gb), (aBather, eI G 24 gt), (aNeeds, eI G 8192 n35), (aLikes, eI G 13 k35), (aHts, eI G 1638 q35)] [some (.ref m), none, none, none, none] [.int (iI r)] := by
          intro r hr
          exact EI (r, t35, k35, q35, n35) _ _ _ _ dX8_needed_65 (Or.inl rfl) (rfl) (rfl) (hr)
        obtain ⟨hT35, hQ35, hN35⟩ := hu35
        have hNDS : NDS (VTt vb vn) (hC gb gt vo vn) n35 S0 := fun P h0 h1 _ => hN35 P h0 h1
        have hnd := hN35 S0 hSS.1 (fun _ h => h)
        have hndb := hnd.1
        refine M.iloadn (pc := 38) 2 rfl rfl dX8_needed_38 ?_
        refine M.if_eq (pc := 39) (tgt := 51) dX8_needed_39 (by decide) (by omega) (fun c39 => ?_) (fun c39 => ?_)
        · refine M.iloadn (pc := 51) 2 rfl rfl dX8_needed_51 ?_
          refine M.if_ne (pc := 52) (tgt := 64) dX8_needed_52 (by decide) (by omega) (fun c52 => ?_) (fun c52 => ?_)
          · refine M.iconst (pc := 64) dX8_needed_64 ?_
            refine M.forget 1 ?_
            dsimp only [List.set_cons_zero, List.set_cons_succ]
            refine M.forget 2 ?_
            dsimp only [List.set_cons_zero, List.set_cons_succ]
            exact L65 (r := (-1)) (by have c48z : n35 S0 = 0 := (by first | exact c48 | exact absurd c39 c52); exact ⟨fun z => absurd z hcs, fun _ => ⟨fun z => absurd hin z, fun _ => ⟨n35 S0, hnd, fun z => absurd z c52, fun _ _ => rfl, fun _ z => absurd c48z z⟩⟩⟩)
          · refine M.aloadn (pc := 55) 0 rfl rfl dX8_needed_55 ?_
            refine M.getf (pc := 56) fg_X8_41 0 rfl rfl dX8_needed_56 ?_
            refine M.iloadn (pc := 59) 1 rfl rfl dX8_needed_59 ?_
            refine M.iald (pc := 60) 3 rfl (by omega) (by omega) dX8_needed_60 ?_
            refine M.goto (pc := 61) (tgt := 65) dX8_needed_61 (by decide) ?_
            refine M.forget 1 ?_
            dsimp only [List.set_cons_zero, List.set_cons_succ]
            refine M.forget 2 ?_
            dsimp only [List.set_cons_zero, List.set_cons_succ]
            exact L65  (by exact ⟨fun z => absurd z hcs, fun _ => ⟨fun z => absurd hin z, fun _ => ⟨n35 S0, hnd, fun _ => rfl, fun z => absurd c52 z, fun z => absurd c52 z⟩⟩⟩)
        · refine M.aloadn (pc := 42) 0 rfl rfl dX8_needed_42 ?_
          refine M.getf (pc := 43) fg_X8_41 0 rfl rfl dX8_needed_43 ?_
          refine M.iloadn (pc := 46) 1 rfl rfl dX8_needed_46 ?_
          refine M.iald (pc := 47) 3 rfl (by omega) (by omega) dX8_needed_47 ?_
          refine M.if_ne (pc := 48) (tgt := 66) dX8_needed_48 (by decide) (by omega) (fun c48 => ?_) (fun c48 => ?_)
          · have hw0 : w ≠ 0 := by omega
            have hs0 : S0 ≠ 0 := fun e => hnd.2.2 0 (by omega) (by omega) (fun c d hc => absurd hc.2 (by rw [e, tb_0]; decide))
            obtain ⟨ts, hts⟩ := FST.ex hnd c48 (fun t h => h.1)
            have hte := VTt.tix hts.1.1 (spl_0 hts.1.2.1)
            have htsx := tix_in hnb hte.1 hte.2
            have htsb := hts.1.1.1
            have h126s : tix vn (ts / 64) (ts % 64) < 126 := by unfold tix; split <;> omega
            have htE : t35 = (if vb = 0 then 0 else tix vn (vb - 1) (p2 vn)) := hT35
            refine M.iconst (pc := 66) dX8_needed_66 ?_
            refine M.istoren (pc := 67) 3 rfl (Nat.le_of_ble_eq_true rfl) rfl dX8_needed_67 ?_
            dsimp only [List.set_cons_zero, List.set_cons_succ]
            have L68 : ∀ (fu : Nat) {t : Int}, (0 ≤ t ∧ t ≤ tix vn (ts / 64) (ts % 64)) → (tix vn (ts / 64) (ts % 64) - t).toNat < fu → V 0 0 68 [(m, eO 8 [.int (iI vb), .ref aBath, .int (iI vn), .ref aBather, .int (iI vo), .int (iI vm), .ref aMorn, .int (iI vs), .ref aText, .int (iI vt), .int (iI vf), .int (iI va), .long (lI vsd), .int (iI vw), .int (iI vu), .int (iI vna), .int (iI vrb), .ref aRB, .int (iI vrn), .ref aRN, .int (iI vro), .ref aLow, .ref aHigh, .int (iI (pI (vch = true))), .ref aNeeds, .ref aLikes, .ref aHts, .int (iI t35), .int (iI vbk), .ref aBook, .ref aImg, .ref aKept]), (aBath, eI G 8 gb), (aBather, eI G 24 gt), (aNeeds, eI G 8192 n35), (aLikes, eI G 13 k35), (aHts, eI G 1638 q35)] [some (.ref m), some (.int (iI S0)), some (.int (iI w)), some (.int (iI t)), none] [] := by
              intro fu
              induction fu with
              | zero => intro t ht hm; exact absurd hm (Nat.not_lt_zero _)
              | succ fu ih68 =>
                intro t ht hm68
                refine M.aloadn (pc := 68) 0 rfl rfl dX8_needed_68 ?_
                refine M.iloadn (pc := 69) 3 rfl rfl dX8_needed_69 ?_
                refine M.iloadn (pc := 70) 1 rfl rfl dX8_needed_70 ?_
                have htl : t < (if vb = 0 then 0 else tix vn (vb - 1) (p2 vn)) := by omega
                obtain ⟨b2, s2, hb2, hs2, ht2⟩ := tix_inv (vb := vb) (vn := vn) ht.1 hnb hp6.1 htl
                have htx := tix_in hnb hb2 hs2
                have h126 : tix vn b2 s2 < 126 := by unfold tix; split <;> omega
                refine M.mV (pc := 71) (c_X8_worstBy (b := b2) (s := s2) (gb := gb) (gt := gt) (vb := vb) (by exact hSS) (by exact hs0) (by exact ⟨ht2, by omega⟩) (by intro c h0 h1 h2; have q := hQ35 b2 s2 c hb2 hs2 ⟨h0, h1⟩ (by omega); rw [if_pos h2] at q; rw [ht2]; exact ⟨q, hC_b hV hT hn ho (by omega) (by omega)⟩) (by exact hNDS)) mv_X8_277 [0, 3, 5] rfl rfl rfl 0 rfl rfl rfl rfl (Nat.le_of_ble_eq_true rfl) rfl ⟨(Nat.le_of_ble_eq_true rfl), (Nat.le_of_ble_eq_true rfl)⟩ ⟨(Nat.le_of_ble_eq_true rfl), (Nat.le_of_ble_eq_true rfl)⟩ rfl (fun _ => rfl) dX8_needed_71 (fun u71 hu71 => ?_)
                dsimp only [putL, List.set_cons_zero, List.set_cons_succ, Option.toList, List.cons_append, List.nil_append] at hu71 ⊢
                have hwv : 0 ≤ u71 ∧ u71 ≤ 1000 := by
                  by_cases q : SPL (hC gb gt vo vn) (b2 * 64 + s2) S0
                  · have := (hu71.2 q).1; omega
                  · have := hu71.1 q; omega
                have hvt2 := VTt.mk (vn := vn) hnb.2 hp6.2 hb2 hs2
                have hgood := WB.good (v := n35 S0) hSS.1 hNDS hnd c48 hvt2 hu71
                have w1 := tix_lt (vn := vn) (b := ts / 64) (s := ts % 64) (b2 := b2) (s2 := s2) (by omega) (by omega) hte.2 hs2 hp6.2
                have w2 := tix_lt (vn := vn) (b := b2) (s := s2) (b2 := ts / 64) (s2 := ts % 64) (by omega) (by omega) hs2 hte.2 hp6.2
                refine M.iconst (pc := 74) dX8_needed_74 ?_
                refine M.iadd (pc := 75) dX8_needed_75 ?_
                refine M.aloadn (pc := 76) 0 rfl rfl dX8_needed_76 ?_
                refine M.getf (pc := 77) fg_X8_41 0 rfl rfl dX8_needed_77 ?_
                refine M.iloadn (pc := 80) 1 rfl rfl dX8_needed_80 ?_
                refine M.iald (pc := 81) 3 rfl (by omega) (by omega) dX8_needed_81 ?_
                refine M.icmp_eq (pc := 82) (tgt := 91) dX8_needed_82 (by decide) (by omega) (by omega) (fun c82 => ?_) (fun c82 => ?_)
                · have hg := hgood.mp c82
                  have htq : t = tix vn (ts / 64) (ts % 64) := by
                    rcases (by omega : t = tix vn (ts / 64) (ts % 64) ∨ b2 * 64 + s2 < ts) with q | q
                    · exact q
                    · exact absurd hg (hts.2 _ q)
                  have hdm := tix_dm (n := vn) (by omega) (b := ts / 64) (s := ts % 64) (by omega) hte.2
                  rw [← htq] at hdm
                  refine M.iconst (pc := 91) dX8_needed_91 ?_
                  refine M.aloadn (pc := 92) 0 rfl rfl dX8_needed_92 ?_
                  refine M.getf (pc := 93) fg_X8_67 0 rfl rfl dX8_needed_93 ?_
                  refine M.ishl (pc := 96) (bit_shl1 hn.1 (by omega)) dX8_needed_96 ?_
                  refine M.iconst (pc := 97) dX8_needed_97 ?_
                  refine M.isub (pc := 98) dX8_needed_98 ?_
                  refine M.istore (pc := 99) (i := 4) (Nat.le_of_ble_eq_true rfl) rfl dX8_needed_99 ?_
                  dsimp only [List.set_cons_zero, List.set_cons_succ]
                  have L119 : ∀ {r : Int}, (r = if w = 1 then ts / 64 else ts % 64) → V 0 0 119 [(m, eO 8 [.int (iI vb), .ref aBath, .int (iI vn), .ref aBather, .int (iI vo), .int (iI vm), .ref aMorn, .int (iI vs), .ref aText, .int (iI vt), .int (iI vf), .int (iI va), .long (lI vsd), .int (iI vw), .int (iI vu), .int (iI vna), .int (iI vrb), .ref aRB, .int (iI vrn), .ref aRN, .int (iI vro), .ref aLow, .ref aHigh, .int (iI (pI (vch = true))), .ref aNeeds, .ref aLikes, .ref aHts, .int (iI t35), .int (iI vbk), .ref aBook, .ref aImg, .ref aKept]), (aBath, eI G 8 gb), (aBather, eI G 24 gt), (aNeeds, eI G 8192 n35), (aLikes, eI G 13 k35), (aHts, eI G 1638 q35)] [some (.ref m), none, none, none, none] [.int (iI r)] := by
                    intro r hr
                    exact EI (r, t35, k35, q35, n35) _ _ _ _ dX8_needed_119 (Or.inl rfl) (rfl) (rfl) (⟨fun z => absurd z hcs, fun _ => ⟨fun z => absurd hin z, fun _ => ⟨n35 S0, hnd, fun z => absurd z hw0, fun _ z => absurd z c48, fun _ _ => ⟨ts, hts, hr⟩⟩⟩⟩)
                  refine M.iloadn (pc := 101) 2 rfl rfl dX8_needed_101 ?_
                  refine M.iconst (pc := 102) dX8_needed_102 ?_
                  refine M.icmp_ne (pc := 103) (tgt := 113) dX8_needed_103 (by decide) (by omega) (by omega) (fun c103 => ?_) (fun c103 => ?_)
                  · refine M.iconst (pc := 113) dX8_needed_113 ?_
                    refine M.iloadn (pc := 114) 3 rfl rfl dX8_needed_114 ?_
                    refine M.iload (pc := 115) (i := 4) rfl dX8_needed_115 ?_
                    refine M.irem (pc := 117) (by omega) (by omega) dX8_needed_117 ?_
                    refine M.iadd (pc := 118) dX8_needed_118 ?_
                    refine M.forget 1 ?_
                    dsimp only [List.set_cons_zero, List.set_cons_succ]
                    refine M.forget 2 ?_
                    dsimp only [List.set_cons_zero, List.set_cons_succ]
                    refine M.forget 3 ?_
                    dsimp only [List.set_cons_zero, List.set_cons_succ]
                    refine M.forget 4 ?_
                    dsimp only [List.set_cons_zero, List.set_cons_succ]
                    exact L119  (by rw [if_neg c103, hdm.2]; omega)
                  · refine M.iloadn (pc := 106) 3 rfl rfl dX8_needed_106 ?_
                    refine M.iload (pc := 107) (i := 4) rfl dX8_needed_107 ?_
                    refine M.idiv (pc := 109) (by omega) (by omega) dX8_needed_109 ?_
                    refine M.goto (pc := 110) (tgt := 119) dX8_needed_110 (by decide) ?_
                    refine M.forget 1 ?_
                    dsimp only [List.set_cons_zero, List.set_cons_succ]
                    refine M.forget 2 ?_
                    dsimp only [List.set_cons_zero, List.set_cons_succ]
                    refine M.forget 3 ?_
                    dsimp only [List.set_cons_zero, List.set_cons_succ]
                    refine M.forget 4 ?_
                    dsimp only [List.set_cons_zero, List.set_cons_succ]
                    exact L119  (by rw [if_pos c103]; exact hdm.1)
                · have htn : t + 1 ≤ tix vn (ts / 64) (ts % 64) := by
                    rcases (by omega : t + 1 ≤ tix vn (ts / 64) (ts % 64) ∨ ts = b2 * 64 + s2) with q | q
                    · exact q
                    · exact absurd (hgood.mpr (by rw [← q]; exact hts.1)) c82
                  refine M.iinc (pc := 85) (i := 3) rfl rfl dX8_needed_85 ?_
                  dsimp only [List.set_cons_zero, List.set_cons_succ]
                  refine M.goto (pc := 88) (tgt := 68) dX8_needed_88 (by decide) ?_
                  exact ih68  (by first | assumption | omega) (by omega)
            exact L68 _  (by first | assumption | omega) (Nat.lt_succ_self _)
          · refine M.iloadn (pc := 51) 2 rfl rfl dX8_needed_51 ?_
            refine M.if_ne (pc := 52) (tgt := 64) dX8_needed_52 (by decide) (by omega) (fun c52 => ?_) (fun c52 => ?_)
            · refine M.iconst (pc := 64) dX8_needed_64 ?_
              refine M.forget 1 ?_
              dsimp only [List.set_cons_zero, List.set_cons_succ]
              refine M.forget 2 ?_
              dsimp only [List.set_cons_zero, List.set_cons_succ]
              exact L65 (r := (-1)) (by have c48z : n35 S0 = 0 := (by first | exact c48 | exact absurd c39 c52); exact ⟨fun z => absurd z hcs, fun _ => ⟨fun z => absurd hin z, fun _ => ⟨n35 S0, hnd, fun z => absurd z c52, fun _ _ => rfl, fun _ z => absurd c48z z⟩⟩⟩)
            · refine M.aloadn (pc := 55) 0 rfl rfl dX8_needed_55 ?_
              refine M.getf (pc := 56) fg_X8_41 0 rfl rfl dX8_needed_56 ?_
              refine M.iloadn (pc := 59) 1 rfl rfl dX8_needed_59 ?_
              refine M.iald (pc := 60) 3 rfl (by omega) (by omega) dX8_needed_60 ?_
              refine M.goto (pc := 61) (tgt := 65) dX8_needed_61 (by decide) ?_
              refine M.forget 1 ?_
              dsimp only [List.set_cons_zero, List.set_cons_succ]
              refine M.forget 2 ?_
              dsimp only [List.set_cons_zero, List.set_cons_succ]
              exact L65  (by exact ⟨fun z => absurd z hcs, fun _ => ⟨fun z => absurd hin z, fun _ => ⟨n35 S0, hnd, fun _ => rfl, fun z => absurd c52 z, fun z => absurd c52 z⟩⟩⟩)
      · refine M.ldc (pc := 30) (-1000000002) lc_X8_76 (by decide +kernel) dX8_needed_30 ?_
        exact EI (-1000000002, vtr, gk, gq, gn) _ _ _ _ dX8_needed_32 (Or.inl rfl) (rfl) (rfl) (⟨fun z => absurd z (fun z => z.elim (fun z => by omega) (fun z => z c12)), fun _ => ⟨fun _ => rfl, fun z => absurd z (by first | exact c27 | exact of_decide_eq_false c27 | (simp at c27; omega))⟩⟩)
    · refine M.ldc (pc := 15) (-1000000001) lc_X8_173 (by decide +kernel) dX8_needed_15 ?_
      exact EI (-1000000001, vtr, gk, gq, gn) _ _ _ _ dX8_needed_17 (Or.inl rfl) (rfl) (rfl) (⟨fun _ => rfl, fun z => absurd (by first | exact Or.inl c1 | exact Or.inr c12) z⟩)
set_option maxHeartbeats 4000000 in
set_option maxRecDepth 100000 in
theorem c_X8_away {l : Launch} {G : GT} {m aBath aBather aMorn aText aRB aRN aLow aHigh aNeeds aLikes aHts aBook aImg aKept : Nat} {vb vn vo vm vs vt vf va vw vu vna vrb vrn vro vtr vbk vsd : Int} {vch : Bool} {gb : Int → Int} {gt : Int → Int} (hn : 0 ≤ vn ∧ vn ≤ 6) (hnb : 0 ≤ vb ∧ vb ≤ 2) (hV : HV gb vb) (hT : HVT gt vn) (ho : 0 ≤ vo ∧ vo ≤ 999) : Con l G yX8_away cX8_away 6 (some .int) { frames := 4, cells := 0, slots := 0, locals := 96 } [.ref m] [(m, eO 8 [.int (iI vb), .ref aBath, .int (iI vn), .ref aBather, .int (iI vo), .int (iI vm), .ref aMorn, .int (iI vs), .ref aText, .int (iI vt), .int (iI vf), .int (iI va), .long (lI vsd), .int (iI vw), .int (iI vu), .int (iI vna), .int (iI vrb), .ref aRB, .int (iI vrn), .ref aRN, .int (iI vro), .ref aLow, .ref aHigh, .int (iI (pI (vch = true))), .ref aNeeds, .ref aLikes, .ref aHts, .int (iI vtr), .int (iI vbk), .ref aBook, .ref aImg, .ref aKept]), (aBath, eI G 8 gb), (aBather, eI G 24 gt)] (S := Int) (fun u => some (.int (iI u))) (fun _ => [(m, eO 8 [.int (iI vb), .ref aBath, .int (iI vn), .ref aBather, .int (iI vo), .int (iI vm), .ref aMorn, .int (iI vs), .ref aText, .int (iI vt), .int (iI vf), .int (iI va), .long (lI vsd), .int (iI vw), .int (iI vu), .int (iI vna), .int (iI vrb), .ref aRB, .int (iI vrn), .ref aRN, .int (iI vro), .ref aLow, .ref aHigh, .int (iI (pI (vch = true))), .ref aNeeds, .ref aLikes, .ref aHts, .int (iI vtr), .int (iI vbk), .ref aBook, .ref aImg, .ref aKept]), (aBath, eI G 8 gb), (aBather, eI G 24 gt)]) (fun u => AWAY (VTt vb vn) (hC gb gt vo vn) vn u) := by
  refine Con.mk (by decide +kernel) [some (.ref m), none, none, none, none, none] rfl (Nat.le_of_ble_eq_true rfl) rfl ?_
  intro V M EI EL EV EA
  refine M.iconst (pc := 0) dX8_away_0 ?_
  refine M.istoren (pc := 1) 1 rfl (Nat.le_of_ble_eq_true rfl) rfl dX8_away_1 ?_
  dsimp only [List.set_cons_zero, List.set_cons_succ]
  have L2 : ∀ (fu : Nat) {k : Int}, (0 ≤ k ∧ k ≤ vn) → (∀ j, 0 ≤ j → j < k → ¬ (∃ a b, (1 ≤ a ∧ a < b ∧ b ≤ vn) ∧ PTD (VTt vb vn) (hC gb gt vo vn) 0 a b ∧ ¬ PTD (VTt vb vn) (hC gb gt vo vn) (p2 j) a b)) → (vn - k).toNat < fu → V 0 0 2 [(m, eO 8 [.int (iI vb), .ref aBath, .int (iI vn), .ref aBather, .int (iI vo), .int (iI vm), .ref aMorn, .int (iI vs), .ref aText, .int (iI vt), .int (iI vf), .int (iI va), .long (lI vsd), .int (iI vw), .int (iI vu), .int (iI vna), .int (iI vrb), .ref aRB, .int (iI vrn), .ref aRN, .int (iI vro), .ref aLow, .ref aHigh, .int (iI (pI (vch = true))), .ref aNeeds, .ref aLikes, .ref aHts, .int (iI vtr), .int (iI vbk), .ref aBook, .ref aImg, .ref aKept]), (aBath, eI G 8 gb), (aBather, eI G 24 gt)] [some (.ref m), some (.int (iI k)), none, none, none, none] [] := by
    intro fu
    induction fu with
    | zero => intro k hk hk2 hm; exact absurd hm (Nat.not_lt_zero _)
    | succ fu ih2 =>
      intro k hk hk2 hm2
      refine M.iloadn (pc := 2) 1 rfl rfl dX8_away_2 ?_
      refine M.aloadn (pc := 3) 0 rfl rfl dX8_away_3 ?_
      refine M.getf (pc := 4) fg_X8_67 0 rfl rfl dX8_away_4 ?_
      refine M.icmp_ge (pc := 7) (tgt := 98) dX8_away_7 (by decide) (by omega) (by omega) (fun c7 => ?_) (fun c7 => ?_)
      · refine M.iconst (pc := 98) dX8_away_98 ?_
        exact EI (-1) _ _ _ _ dX8_away_99 (Or.inl rfl) (rfl) (rfl) (Or.inl ⟨rfl, fun j h0 h1 => hk2 j h0 (by omega)⟩)
      · refine M.iconst (pc := 10) dX8_away_10 ?_
        refine M.istoren (pc := 11) 2 rfl (Nat.le_of_ble_eq_true rfl) rfl dX8_away_11 ?_
        dsimp only [List.set_cons_zero, List.set_cons_succ]
        have L12 : ∀ (fu : Nat) {p : Int}, (0 ≤ p ∧ p ≤ 36) → (∀ a b, (1 ≤ a ∧ a < b ∧ b ≤ vn) → (a - 1) * 6 + (b - 1) < p → ¬ (PTD (VTt vb vn) (hC gb gt vo vn) 0 a b ∧ ¬ PTD (VTt vb vn) (hC gb gt vo vn) (p2 k) a b)) → (36 - p).toNat < fu → V 0 0 12 [(m, eO 8 [.int (iI vb), .ref aBath, .int (iI vn), .ref aBather, .int (iI vo), .int (iI vm), .ref aMorn, .int (iI vs), .ref aText, .int (iI vt), .int (iI vf), .int (iI va), .long (lI vsd), .int (iI vw), .int (iI vu), .int (iI vna), .int (iI vrb), .ref aRB, .int (iI vrn), .ref aRN, .int (iI vro), .ref aLow, .ref aHigh, .int (iI (pI (vch = true))), .ref aNeeds, .ref aLikes, .ref aHts, .int (iI vtr), .int (iI vbk), .ref aBook, .ref aImg, .ref aKept]), (aBath, eI G 8 gb), (aBather, eI G 24 gt)] [some (.ref m), some (.int (iI k)), some (.int (iI p)), none, none, none] [] := by
          intro fu
          induction fu with
          | zero => intro p hp hp2 hm; exact absurd hm (Nat.not_lt_zero _)
          | succ fu ih12 =>
            intro p hp hp2 hm12
            refine M.iloadn (pc := 12) 2 rfl rfl dX8_away_12 ?_
            refine M.bipush (pc := 13) (by decide +kernel) dX8_away_13 ?_
            refine M.icmp_ge (pc := 15) (tgt := 92) dX8_away_15 (by decide) (by omega) (by omega) (fun c15 => ?_) (fun c15 => ?_)
            · refine M.iinc (pc := 92) (i := 1) rfl rfl dX8_away_92 ?_
              dsimp only [List.set_cons_zero, List.set_cons_succ]
              refine M.goto (pc := 95) (tgt := 2) dX8_away_95 (by decide) ?_
              refine M.forget 2 ?_
              dsimp only [List.set_cons_zero, List.set_cons_succ]
              exact ih2  (by first | assumption | omega) (by intro j h0 h1; rcases (by omega : j < k ∨ j = k) with q | q; exact hk2 j h0 q; rw [q]; exact fun ⟨a, b, h2, h3⟩ => hp2 a b h2 (by omega) h3) (by omega)
            · refine M.iconst (pc := 18) dX8_away_18 ?_
              refine M.iloadn (pc := 19) 2 rfl rfl dX8_away_19 ?_
              refine M.bipush (pc := 20) (by decide +kernel) dX8_away_20 ?_
              refine M.idiv (pc := 22) (by omega) (by omega) dX8_away_22 ?_
              refine M.iadd (pc := 23) dX8_away_23 ?_
              refine M.istoren (pc := 24) 3 rfl (Nat.le_of_ble_eq_true rfl) rfl dX8_away_24 ?_
              dsimp only [List.set_cons_zero, List.set_cons_succ]
              refine M.iconst (pc := 25) dX8_away_25 ?_
              refine M.iloadn (pc := 26) 2 rfl rfl dX8_away_26 ?_
              refine M.bipush (pc := 27) (by decide +kernel) dX8_away_27 ?_
              refine M.irem (pc := 29) (by omega) (by omega) dX8_away_29 ?_
              refine M.iadd (pc := 30) dX8_away_30 ?_
              refine M.istore (pc := 31) (i := 4) (Nat.le_of_ble_eq_true rfl) rfl dX8_away_31 ?_
              dsimp only [List.set_cons_zero, List.set_cons_succ]
              have L53 : ∀ {ar : Bool}, (ar = true ↔ (1 + p / 6 < 1 + p % 6 ∧ 1 + p % 6 ≤ vn)) → V 0 0 53 [(m, eO 8 [.int (iI vb), .ref aBath, .int (iI vn), .ref aBather, .int (iI vo), .int (iI vm), .ref aMorn, .int (iI vs), .ref aText, .int (iI vt), .int (iI vf), .int (iI va), .long (lI vsd), .int (iI vw), .int (iI vu), .int (iI vna), .int (iI vrb), .ref aRB, .int (iI vrn), .ref aRN, .int (iI vro), .ref aLow, .ref aHigh, .int (iI (pI (vch = true))), .ref aNeeds, .ref aLikes, .ref aHts, .int (iI vtr), .int (iI vbk), .ref aBook, .ref aImg, .ref aKept]), (aBath, eI G 8 gb), (aBather, eI G 24 gt)] [some (.ref m), some (.int (iI k)), some (.int (iI p)), some (.int (iI (1 + p / 6))), some (.int (iI (1 + p % 6))), none] [.int (iI (pI (ar = true)))] := by
                intro ar har
                refine M.istore (pc := 53) (i := 5) (Nat.le_of_ble_eq_true rfl) rfl dX8_away_53 ?_
                dsimp only [List.set_cons_zero, List.set_cons_succ]
                have L86 : ((1 + p / 6 < 1 + p % 6 ∧ 1 + p % 6 ≤ vn) → ¬ (PTD (VTt vb vn) (hC gb gt vo vn) 0 (1 + p / 6) (1 + p % 6) ∧ ¬ PTD (VTt vb vn) (hC gb gt vo vn) (p2 k) (1 + p / 6) (1 + p % 6))) → V 0 0 86 [(m, eO 8 [.int (iI vb), .ref aBath, .int (iI vn), .ref aBather, .int (iI vo), .int (iI vm), .ref aMorn, .int (iI vs), .ref aText, .int (iI vt), .int (iI vf), .int (iI va), .long (lI vsd), .int (iI vw), .int (iI vu), .int (iI vna), .int (iI vrb), .ref aRB, .int (iI vrn), .ref aRN, .int (iI vro), .ref aLow, .ref aHigh, .int (iI (pI (vch = true))), .ref aNeeds, .ref aLikes, .ref aHts, .int (iI vtr), .int (iI vbk), .ref aBook, .ref aImg, .ref aKept]), (aBath, eI G 8 gb), (aBather, eI G 24 gt)] [some (.ref m), some (.int (iI k)), some (.int (iI p)), none, none, none] [] := by
                  intro  hno
                  refine M.iinc (pc := 86) (i := 2) rfl rfl dX8_away_86 ?_
                  dsimp only [List.set_cons_zero, List.set_cons_succ]
                  refine M.goto (pc := 89) (tgt := 12) dX8_away_89 (by decide) ?_
                  exact ih12  (by first | assumption | omega) (by intro a b h1 h2; rcases (by omega : (a - 1) * 6 + (b - 1) < p ∨ (a = 1 + p / 6 ∧ b = 1 + p % 6)) with q | q; exact hp2 a b h1 q; rw [q.1, q.2]; exact hno (by omega)) (by omega)
                refine M.iload (pc := 55) (i := 5) rfl dX8_away_55 ?_
                refine M.if_eqP (pc := 57) (tgt := 86) dX8_away_57 (by decide) (fun c57 => ?_) (fun c57 => ?_)
                · refine M.forget 3 ?_
                  dsimp only [List.set_cons_zero, List.set_cons_succ]
                  refine M.forget 4 ?_
                  dsimp only [List.set_cons_zero, List.set_cons_succ]
                  refine M.forget 5 ?_
                  dsimp only [List.set_cons_zero, List.set_cons_succ]
                  exact L86  (by intro z; exact absurd (har.mpr z) c57)
                · have har2 := har.mp c57
                  refine M.aloadn (pc := 60) 0 rfl rfl dX8_away_60 ?_
                  refine M.iloadn (pc := 61) 3 rfl rfl dX8_away_61 ?_
                  refine M.iload (pc := 62) (i := 4) rfl dX8_away_62 ?_
                  refine M.iconst (pc := 64) dX8_away_64 ?_
                  refine M.mV (pc := 65) (c_X8_isParted  (by first | assumption | omega) (by first | assumption | omega) (by first | assumption | omega) (by first | assumption | omega) (by first | assumption | omega) (by exact ⟨decide_eq_true (by omega), by omega⟩) (by exact ⟨decide_eq_true (by omega), by omega⟩) (by first | assumption | omega)) mv_X8_261 [0, 1, 2] rfl rfl rfl 0 rfl rfl rfl rfl (Nat.le_of_ble_eq_true rfl) rfl ⟨(Nat.le_of_ble_eq_true rfl), (Nat.le_of_ble_eq_true rfl)⟩ ⟨(Nat.le_of_ble_eq_true rfl), (Nat.le_of_ble_eq_true rfl)⟩ rfl (fun _ => rfl) dX8_away_65 (fun u65 hu65 => ?_)
                  dsimp only [putL, List.set_cons_zero, List.set_cons_succ, Option.toList, List.cons_append, List.nil_append] at hu65 ⊢
                  refine M.if_eqP (pc := 68) (tgt := 86) dX8_away_68 (by decide) (fun c68 => ?_) (fun c68 => ?_)
                  · refine M.forget 3 ?_
                    dsimp only [List.set_cons_zero, List.set_cons_succ]
                    refine M.forget 4 ?_
                    dsimp only [List.set_cons_zero, List.set_cons_succ]
                    refine M.forget 5 ?_
                    dsimp only [List.set_cons_zero, List.set_cons_succ]
                    exact L86  (by intro _ z; exact c68 (hu65.mpr z.1))
                  · refine M.aloadn (pc := 71) 0 rfl rfl dX8_away_71 ?_
                    refine M.iloadn (pc := 72) 3 rfl rfl dX8_away_72 ?_
                    refine M.iload (pc := 73) (i := 4) rfl dX8_away_73 ?_
                    refine M.iconst (pc := 75) dX8_away_75 ?_
                    refine M.iloadn (pc := 76) 1 rfl rfl dX8_away_76 ?_
                    refine M.ishl (pc := 77) (bit_shl1 hk.1 (by omega)) dX8_away_77 ?_
                    refine M.mV (pc := 78) (c_X8_isParted  (by first | assumption | omega) (by first | assumption | omega) (by first | assumption | omega) (by first | assumption | omega) (by first | assumption | omega) (by exact ⟨decide_eq_true (by omega), by omega⟩) (by exact ⟨decide_eq_true (by omega), by omega⟩) (by have := p2_lt64 hk.1 (by omega); omega)) mv_X8_261 [0, 1, 2] rfl rfl rfl 0 rfl rfl rfl rfl (Nat.le_of_ble_eq_true rfl) rfl ⟨(Nat.le_of_ble_eq_true rfl), (Nat.le_of_ble_eq_true rfl)⟩ ⟨(Nat.le_of_ble_eq_true rfl), (Nat.le_of_ble_eq_true rfl)⟩ rfl (fun _ => rfl) dX8_away_78 (fun u78 hu78 => ?_)
                    dsimp only [putL, List.set_cons_zero, List.set_cons_succ, Option.toList, List.cons_append, List.nil_append] at hu78 ⊢
                    refine M.if_neP (pc := 81) (tgt := 86) dX8_away_81 (by decide) (fun c81 => ?_) (fun c81 => ?_)
                    · refine M.forget 3 ?_
                      dsimp only [List.set_cons_zero, List.set_cons_succ]
                      refine M.forget 4 ?_
                      dsimp only [List.set_cons_zero, List.set_cons_succ]
                      refine M.forget 5 ?_
                      dsimp only [List.set_cons_zero, List.set_cons_succ]
                      exact L86  (by intro _ z; exact z.2 (hu78.mp c81))
                    · refine M.iloadn (pc := 84) 1 rfl rfl dX8_away_84 ?_
                      exact EI k _ _ _ _ dX8_away_85 (Or.inl rfl) (rfl) (rfl) (Or.inr ⟨⟨hk.1, by omega⟩, ⟨1 + p / 6, 1 + p % 6, ⟨by omega, har2.1, har2.2⟩, hu65.mp c68, fun z => c81 (hu78.mpr z)⟩, hk2⟩)
              refine M.iloadn (pc := 33) 3 rfl rfl dX8_away_33 ?_
              refine M.iload (pc := 34) (i := 4) rfl dX8_away_34 ?_
              refine M.icmp_ge (pc := 36) (tgt := 52) dX8_away_36 (by decide) (by omega) (by omega) (fun c36 => ?_) (fun c36 => ?_)
              · refine M.iconst (pc := 52) dX8_away_52 ?_
                exact L53 (ar := false) (by exact ⟨fun z => absurd z (by decide), fun z => by omega⟩)
              · refine M.iload (pc := 39) (i := 4) rfl dX8_away_39 ?_
                refine M.aloadn (pc := 41) 0 rfl rfl dX8_away_41 ?_
                refine M.getf (pc := 42) fg_X8_67 0 rfl rfl dX8_away_42 ?_
                refine M.icmp_gt (pc := 45) (tgt := 52) dX8_away_45 (by decide) (by omega) (by omega) (fun c45 => ?_) (fun c45 => ?_)
                · refine M.iconst (pc := 52) dX8_away_52 ?_
                  exact L53 (ar := false) (by exact ⟨fun z => absurd z (by decide), fun z => by omega⟩)
                · refine M.iconst (pc := 48) dX8_away_48 ?_
                  refine M.goto (pc := 49) (tgt := 53) dX8_away_49 (by decide) ?_
                  exact L53 (ar := true) (by exact ⟨fun _ => ⟨by omega, by omega⟩, fun _ => rfl⟩)
        exact L12 _  (by first | assumption | omega) (by intro a b h1 h2; omega) (Nat.lt_succ_self _)
  exact L2 _  (by first | assumption | omega) (by intro j _ h; omega) (Nat.lt_succ_self _)
