/-! the class's cases: enough tries -/
def OKP (vt : Int → Prop) (H : Int → Int → Int) (t S : Int) (q : Nat) : Prop := SPL H t S ∧ ∀ c, me S c → NL vt H q (PT H t S c)
def TBE (n : Int) (vt : Int → Prop) (H : Int → Int → Int) (cu : Int) (U P : Int → Int) : Prop := (0 ≤ cu ∧ cu ≤ 128) ∧ (∀ u, 0 ≤ u → u < cu → vt (U u) ∧ PRT n H (U u) P (u * 13)) ∧ (∀ s, vt s → LDR n (H s) ≠ 0 → ∃ u, (0 ≤ u ∧ u < cu) ∧ U u ≤ s ∧ LDR n (H (U u)) = LDR n (H s)) ∧ (∀ u v, 0 ≤ u → u < v → v < cu → U u < U v)
theorem land_PT {n t S x : Int} {H : Int → Int → Int} (hS : 0 ≤ S ∧ S < 8192) (hp : ∀ d, me S d → prB n d = true) : land S (PT H t (cm (prB n) 13) x) = PT H t S x := by
  have hb : 0 ≤ PT H t (cm (prB n) 13) x ∧ PT H t (cm (prB n) 13) x < 8192 := cm_13b _
  have hl := land_b (a := S) (b := PT H t (cm (prB n) 13) x) hS.1 hb.1
  refine mask_ext ⟨hl.1, by omega⟩ (cm_13b _) (fun e h0 h1 => ?_)
  rw [tb_land]
  unfold PT
  rw [cm_13 (fun d => tb (cm (prB n) 13) d && decide (H t d = H t x)) h0 h1, cm_13 (fun d => tb S d && decide (H t d = H t x)) h0 h1, cm_13 (prB n) h0 h1]
  by_cases q : tb S e = true
  · have h := hp e ⟨⟨h0, h1⟩, q⟩
    simp [q, h]
  · simp [Bool.eq_false_iff.mpr q]
theorem MGD.sub {n : Int} {vt : Int → Prop} {H : Int → Int → Int} {S P : Int} (h : MGD n vt H S) (hs : ∀ d, me P d → me S d) : MGD n vt H P := ⟨fun d hd => h.1 d (hs d hd), fun c d hc hd => h.2 c d (hs c hc) (hs d hd)⟩
theorem me_land {S P d : Int} (h : me (land S P) d) : me S d ∧ me P d := by
  have h2 := h.2
  rw [tb_land, Bool.and_eq_true] at h2
  exact ⟨⟨h.1, h2.1⟩, ⟨h.1, h2.2⟩⟩
theorem PT_eq {t S c d : Int} {H : Int → Int → Int} (h : H t c = H t d) : PT H t S c = PT H t S d := by
  unfold PT
  rw [h]
theorem OKP.of {n t S b J : Int} {q : Nat} {vt : Int → Prop} {H : Int → Int → Int} {P : Int → Int} (hS : 0 ≤ S ∧ S < 8192) (hp : ∀ d, me S d → prB n d = true) (hx : ∀ x, prB n x = true → ∃ j, (0 ≤ j ∧ j < J) ∧ P (b + j) = PT H t (cm (prB n) 13) x) (h : ∀ j, 0 ≤ j → j < J → land S (P (b + j)) ≠ S ∧ NL vt H q (land S (P (b + j)))) : OKP vt H t S q := by
  have key : ∀ x, prB n x = true → PT H t S x ≠ S ∧ NL vt H q (PT H t S x) := fun x hpx => by
    obtain ⟨j, h1, h2⟩ := hx x hpx
    have h3 := h j h1.1 h1.2
    rw [h2, land_PT hS hp] at h3
    exact h3
  refine ⟨?_, fun c hc => (key c (hp c hc)).2⟩
  refine Classical.byContradiction (fun z => ?_)
  have k0 := (key 0 (decide_eq_true (Or.inl rfl))).1
  by_cases w : ∃ d, me S d
  · obtain ⟨d, hd⟩ := w
    refine (key d (hp d hd)).1 (mask_ext (cm_13b _) hS (fun e h0 h1 => ?_))
    by_cases y : tb S e = true
    · rw [y]
      exact (me_PT.mpr ⟨⟨⟨h0, h1⟩, y⟩, Classical.byContradiction (fun v => z ⟨e, d, ⟨⟨h0, h1⟩, y⟩, hd, v⟩)⟩).2
    · rw [Bool.eq_false_iff.mpr y]
      exact Bool.eq_false_iff.mpr (fun v => y (me_PT.mp ⟨⟨h0, h1⟩, v⟩).1.2)
  · refine k0 (mask_ext (cm_13b _) hS (fun e h0 h1 => ?_))
    rw [Bool.eq_false_iff.mpr (fun v => w ⟨e, ⟨⟨h0, h1⟩, v⟩⟩)]
    exact Bool.eq_false_iff.mpr (fun v => w ⟨e, (me_PT.mp ⟨⟨h0, h1⟩, v⟩).1⟩)
theorem OKP.no {n t S p : Int} {q : Nat} {vt : Int → Prop} {H : Int → Int → Int} (hS : 0 ≤ S ∧ S < 8192) (hp : ∀ d, me S d → prB n d = true) (hx : ∃ x, prB n x = true ∧ p = PT H t (cm (prB n) 13) x) (h : land S p = S ∨ ¬ NL vt H q (land S p)) : ¬ OKP vt H t S q := by
  obtain ⟨x, h1, h2⟩ := hx
  rw [h2, land_PT hS hp] at h
  rintro ⟨⟨a, b, ha, hb, hab⟩, h4⟩
  rcases h with h | h
  · have ka := (me_PT (H := H) (t := t) (S := S) (c := x) (d := a)).mp (by rw [h]; exact ha)
    have kb := (me_PT (H := H) (t := t) (S := S) (c := x) (d := b)).mp (by rw [h]; exact hb)
    exact hab (ka.2.trans kb.2.symm)
  · refine h ?_
    by_cases w : ∃ d, me (PT H t S x) d
    · obtain ⟨d, hd⟩ := w
      have h5 := me_PT.mp hd
      rw [PT_eq h5.2.symm]
      exact h4 d h5.1
    · exact NL.up (Nat.zero_le _) (show NL vt H 0 (PT H t S x) from fun c d hc _ => absurd ⟨c, hc⟩ w)
theorem OKP.nl {t S q : Int} {vt : Int → Prop} {H : Int → Int → Int} (hq : 0 < q) (ht : vt t) (h : OKP vt H t S (q - 1).toNat) : NL vt H q.toNat S := by
  rw [show q.toNat = (q - 1).toNat + 1 by omega]
  exact Or.inr ⟨t, ht, h.1, h.2⟩
theorem NL.okp {S q : Int} {vt : Int → Prop} {H : Int → Int → Int} (hq : 0 < q) (h0 : ¬ NL0 vt H S) (h : NL vt H q.toNat S) : ∃ t, vt t ∧ OKP vt H t S (q - 1).toNat := by
  rw [show q.toNat = (q - 1).toNat + 1 by omega] at h
  rcases h with h | ⟨t, h1, h2, h3⟩
  · exact absurd h h0
  · exact ⟨t, h1, h2, h3⟩
theorem OKP.cg {n s t S : Int} {q : Nat} {vt : Int → Prop} {H : Int → Int → Int} (hn : 0 ≤ n ∧ n ≤ 6) (hp : ∀ d, me S d → prB n d = true) (he : LDR n (H s) = LDR n (H t)) (h : OKP vt H t S q) : OKP vt H s S q := by
  obtain ⟨⟨a, b, ha, hb, hab⟩, h2⟩ := h
  refine ⟨⟨a, b, ha, hb, fun z => hab ((LDR_eq hn he (hp a ha) (hp b hb)).mp z)⟩, fun c hc => ?_⟩
  have e : PT H s S c = PT H t S c := by
    unfold PT
    refine cm_ext 13 (fun j hj => ?_)
    by_cases y : tb S (j : Int) = true
    · have h3 := LDR_eq hn he (hp (j : Int) ⟨⟨by omega, by omega⟩, y⟩) (hp c hc)
      by_cases w : H s (j : Int) = H s c
      · rw [decide_eq_true w, decide_eq_true (h3.mp w)]
      · rw [decide_eq_false w, decide_eq_false (fun v => w (h3.mpr v))]
    · simp [Bool.eq_false_iff.mpr y]
  rw [e]
  exact h2 c hc
theorem TBE.cov {n s S cu : Int} {q : Nat} {vt : Int → Prop} {H : Int → Int → Int} {U P : Int → Int} (hn : 0 ≤ n ∧ n ≤ 6) (hE : TBE n vt H cu U P) (hp : ∀ d, me S d → prB n d = true) (hs : vt s) (h : OKP vt H s S q) : ∃ u, (0 ≤ u ∧ u < cu) ∧ U u ≤ s ∧ OKP vt H (U u) S q := by
  have hl : LDR n (H s) ≠ 0 := by
    intro z
    obtain ⟨⟨a, b, ha, hb, hab⟩, _⟩ := h
    exact hab (LDR_0 hn z (hp a ha) (hp b hb))
  obtain ⟨u, h1, h2, h3⟩ := hE.2.2.1 s hs hl
  exact ⟨u, h1, h2, h.cg hn hp h3⟩
theorem KN.up {n S v : Int} {vt : Int → Prop} {H : Int → Int → Int} {N : Int → Int} (h : KN n vt H N) (hb : 0 ≤ v / 16 ∧ v / 16 ≤ 13 ∧ v % 16 ≤ 13) (h1 : 0 < v % 16 → ¬ NL vt H (v % 16).toNat S) (h2 : v / 16 ≠ 0 → NL vt H (v / 16).toNat S) : KN n vt H (upZ N S v) := by
  intro P hP hM
  by_cases e : P = S
  · rw [e, upZ_s]; exact ⟨hb, h1, h2⟩
  · rw [upZ_n e]; exact h P hP hM
set_option maxHeartbeats 4000000 in
set_option maxRecDepth 100000 in
theorem c_X0_isEnough_0 {l : Launch} {G : GT} {t aL aU aP aK aN aH : Nat} {cu cp : Int} {cb : Bool} {wP : Int → Int} {wN : Int → Int} {U : Int → Int} {H : Int → Int → Int} {n : Int} {vt : Int → Prop} {S q : Int} (hn : 0 ≤ n ∧ n ≤ 6) (hE : TBE n vt H cu U wP) (hS : 0 ≤ S ∧ S < 8192) (hM : MGD n vt H S) (hq : 0 ≤ q ∧ q ≤ 0) (hN : KN n vt H wN) : Con l G yX0_isEnough cX0_isEnough 7 (some .boolean) { frames := 0, cells := 0, slots := 0, locals := 0 } [.ref t, .int (iI S), .int (iI q)] [(t, eO 0 [.ref aL, .ref aU, .ref aP, .ref aK, .ref aN, .ref aH, .int (iI cu), .int (iI cp), .int (iI (pI (cb = true)))]), (aP, eI G 1664 wP), (aN, eI G 8192 wN)] (S := Bool × (Int → Int)) (fun u => some (.int (iI (pI (u.1 = true))))) (fun u => [(t, eO 0 [.ref aL, .ref aU, .ref aP, .ref aK, .ref aN, .ref aH, .int (iI cu), .int (iI cp), .int (iI (pI (cb = true)))]), (aP, eI G 1664 wP), (aN, eI G 8192 u.2)]) (fun u => (u.1 = true ↔ NL vt H q.toNat S) ∧ KN n vt H u.2) := by
  refine Con.mk (by decide +kernel) [some (.ref t), some (.int (iI S)), some (.int (iI q)), none, none, none, none] rfl (Nat.le_of_ble_eq_true rfl) rfl ?_
  intro V M EI EL EV EA
  obtain ⟨h1a, h1b, h1c, h1d⟩ := one_ok hS
  have hkn := hN S hS hM
  have hkb := hkn.1
  have hEc := hE.1
  have hy0 : sub1 S = 0 → NL0 vt H S := fun z c d hc hd => by rw [h1c z c d hc hd]; exact fun _ _ => rfl
  have hn0 : sub1 S ≠ 0 → ¬ NL0 vt H S := fun z w => by
    obtain ⟨c, d, hc, hd, hcd⟩ := h1d z
    exact hcd (hM.2 c d hc hd (w c d hc hd))
  refine M.iloadn (pc := 0) 1 rfl rfl dX0_isEnough_0 ?_
  refine M.iloadn (pc := 1) 1 rfl rfl dX0_isEnough_1 ?_
  refine M.iconst (pc := 2) dX0_isEnough_2 ?_
  refine M.isub (pc := 3) dX0_isEnough_3 ?_
  refine M.iand (pc := 4) (h1a) dX0_isEnough_4 ?_
  refine M.if_ne (pc := 5) (tgt := 10) dX0_isEnough_5 (by decide) (by omega) (fun c5 => ?_) (fun c5 => ?_)
  · refine M.iloadn (pc := 10) 2 rfl rfl dX0_isEnough_10 ?_
    refine M.if_le (pc := 11) (tgt := 27) dX0_isEnough_11 (by decide) (by omega) (fun c11 => ?_) (fun c11 => ?_)
    · refine M.iconst (pc := 27) dX0_isEnough_27 ?_
      exact EI (false, wN) _ _ _ _ dX0_isEnough_28 (Or.inr ⟨rfl, by first | exact Or.inl rfl | exact Or.inr rfl | exact pI_01 _⟩) (rfl) (rfl) (⟨⟨fun z => absurd (show false = true from z) (by decide), fun z => absurd (show NL vt H 0 S by rw [show q.toNat = 0 by omega] at z; exact z) (hn0 c5)⟩, hN⟩)
    · exact absurd c11 (by omega)
  · refine M.iconst (pc := 8) dX0_isEnough_8 ?_
    exact EI (true, wN) _ _ _ _ dX0_isEnough_9 (Or.inr ⟨rfl, by first | exact Or.inl rfl | exact Or.inr rfl | exact pI_01 _⟩) (rfl) (rfl) (⟨⟨fun _ => NL.up (Nat.zero_le _) (show NL vt H 0 S from hy0 c5), fun _ => rfl⟩, hN⟩)
set_option maxHeartbeats 4000000 in
set_option maxRecDepth 100000 in
theorem c_X0_partsEnough_0 {l : Launch} {G : GT} {t aL aU aP aK aN aH : Nat} {cu cp : Int} {cb : Bool} {wP : Int → Int} {wN : Int → Int} {U : Int → Int} {H : Int → Int → Int} {n : Int} {vt : Int → Prop} {u S q : Int} (hn : 0 ≤ n ∧ n ≤ 6) (hE : TBE n vt H cu U wP) (hS : 0 ≤ S ∧ S < 8192) (hM : MGD n vt H S) (hq : 0 ≤ q ∧ q ≤ 0) (hN : KN n vt H wN) (hu : 0 ≤ u ∧ u < cu) : Con l G yX0_partsEnough cX0_partsEnough 7 (some .boolean) { frames := 1, cells := 0, slots := 0, locals := 26 } [.ref t, .int (iI u), .int (iI S), .int (iI q)] [(t, eO 0 [.ref aL, .ref aU, .ref aP, .ref aK, .ref aN, .ref aH, .int (iI cu), .int (iI cp), .int (iI (pI (cb = true)))]), (aP, eI G 1664 wP), (aN, eI G 8192 wN)] (S := Bool × (Int → Int)) (fun u => some (.int (iI (pI (u.1 = true))))) (fun u => [(t, eO 0 [.ref aL, .ref aU, .ref aP, .ref aK, .ref aN, .ref aH, .int (iI cu), .int (iI cp), .int (iI (pI (cb = true)))]), (aP, eI G 1664 wP), (aN, eI G 8192 u.2)]) (fun x => (x.1 = true ↔ OKP vt H (U u) S q.toNat) ∧ KN n vt H x.2) := by
  refine Con.mk (by decide +kernel) [some (.ref t), some (.int (iI u)), some (.int (iI S)), some (.int (iI q)), none, none, none] rfl (Nat.le_of_ble_eq_true rfl) rfl ?_
  intro V M EI EL EV EA
  have hEc := hE.1
  obtain ⟨hvt, J, hJ, hj, hz, hx⟩ := hE.2.1 u hu.1 hu.2
  refine M.iloadn (pc := 0) 1 rfl rfl dX0_partsEnough_0 ?_
  refine M.bipush (pc := 1) (by decide +kernel) dX0_partsEnough_1 ?_
  refine M.imul (pc := 3) dX0_partsEnough_3 ?_
  refine M.istore (pc := 4) (i := 4) (Nat.le_of_ble_eq_true rfl) rfl dX0_partsEnough_4 ?_
  dsimp only [List.set_cons_zero, List.set_cons_succ]
  have L6 : ∀ (fu : Nat) {j : Int} {N2 : Int → Int}, (0 ≤ j ∧ j ≤ J) → (∀ i, 0 ≤ i → i < j → land S (wP (u * 13 + i)) ≠ S ∧ NL vt H q.toNat (land S (wP (u * 13 + i)))) → (KN n vt H N2) → (13 - j).toNat < fu → V 0 0 6 [(t, eO 0 [.ref aL, .ref aU, .ref aP, .ref aK, .ref aN, .ref aH, .int (iI cu), .int (iI cp), .int (iI (pI (cb = true)))]), (aP, eI G 1664 wP), (aN, eI G 8192 N2)] [some (.ref t), some (.int (iI u)), some (.int (iI S)), some (.int (iI q)), some (.int (iI (u * 13 + j))), none, none] [] := by
    intro fu
    induction fu with
    | zero => intro j N2 hjj hok hN2 hm; exact absurd hm (Nat.not_lt_zero _)
    | succ fu ih6 =>
      intro j N2 hjj hok hN2 hm6
      refine M.iload (pc := 6) (i := 4) rfl dX0_partsEnough_6 ?_
      refine M.iloadn (pc := 8) 1 rfl rfl dX0_partsEnough_8 ?_
      refine M.iconst (pc := 9) dX0_partsEnough_9 ?_
      refine M.iadd (pc := 10) dX0_partsEnough_10 ?_
      refine M.bipush (pc := 11) (by decide +kernel) dX0_partsEnough_11 ?_
      refine M.imul (pc := 13) dX0_partsEnough_13 ?_
      refine M.icmp_ge (pc := 14) (tgt := 82) dX0_partsEnough_14 (by decide) (by omega) (by omega) (fun c14 => ?_) (fun c14 => ?_)
      · refine M.iconst (pc := 82) dX0_partsEnough_82 ?_
        exact EI (true, N2) _ _ _ _ dX0_partsEnough_83 (Or.inr ⟨rfl, by first | exact Or.inl rfl | exact Or.inr rfl | exact pI_01 _⟩) (rfl) (rfl) (⟨⟨fun _ => OKP.of hS hM.1 hx (by rw [show J = j by omega]; exact hok), fun _ => rfl⟩, hN2⟩)
      · refine M.iload (pc := 17) (i := 4) rfl dX0_partsEnough_17 ?_
        refine M.if_lt (pc := 19) (tgt := 42) dX0_partsEnough_19 (by decide) (by omega) (fun c19 => ?_) (fun c19 => ?_)
        · exact absurd c19 (by omega)
        · refine M.iload (pc := 22) (i := 4) rfl dX0_partsEnough_22 ?_
          refine M.aloadn (pc := 24) 0 rfl rfl dX0_partsEnough_24 ?_
          refine M.getf (pc := 25) fg_X0_19 0 rfl rfl dX0_partsEnough_25 ?_
          refine M.alenI (pc := 28) 1 rfl dX0_partsEnough_28 ?_
          refine M.icmp_ge (pc := 29) (tgt := 42) dX0_partsEnough_29 (by decide) (by omega) (by omega) (fun c29 => ?_) (fun c29 => ?_)
          · exact absurd c29 (by omega)
          · refine M.aloadn (pc := 32) 0 rfl rfl dX0_partsEnough_32 ?_
            refine M.getf (pc := 33) fg_X0_19 0 rfl rfl dX0_partsEnough_33 ?_
            refine M.iload (pc := 36) (i := 4) rfl dX0_partsEnough_36 ?_
            refine M.iald (pc := 38) 1 rfl (by omega) (by omega) dX0_partsEnough_38 ?_
            refine M.goto (pc := 39) (tgt := 43) dX0_partsEnough_39 (by decide) ?_
            refine M.istore (pc := 43) (i := 5) (Nat.le_of_ble_eq_true rfl) rfl dX0_partsEnough_43 ?_
            dsimp only [List.set_cons_zero, List.set_cons_succ]
            have hwb : (0 ≤ wP (u * 13 + j) ∧ wP (u * 13 + j) < 8192) ∧ (wP (u * 13 + j) = 0 → j = J) := by
              rcases (by omega : j < J ∨ j = J) with w | w
              · obtain ⟨h1, x, h2, h3⟩ := hj j hjj.1 w
                have h4 : 0 ≤ PT H (U u) (cm (prB n) 13) x ∧ PT H (U u) (cm (prB n) 13) x < 8192 := cm_13b _
                exact ⟨by rw [h3]; exact h4, fun z => absurd z h1⟩
              · have h5 := hz (by omega)
                rw [w, h5]
                exact ⟨by omega, fun _ => rfl⟩
            refine M.iload (pc := 45) (i := 5) rfl dX0_partsEnough_45 ?_
            refine M.if_ne (pc := 47) (tgt := 52) dX0_partsEnough_47 (by decide) (by omega) (fun c47 => ?_) (fun c47 => ?_)
            · have hjJ : j < J := by
                rcases (by omega : j < J ∨ j = J) with w | w
                · exact w
                · exact absurd (by rw [w]; exact hz (by omega)) c47
              have hll := land_b (a := S) (b := wP (u * 13 + j)) hS.1 hwb.1.1
              refine M.iloadn (pc := 52) 2 rfl rfl dX0_partsEnough_52 ?_
              refine M.iload (pc := 53) (i := 5) rfl dX0_partsEnough_53 ?_
              refine M.iand (pc := 55) (land_ok hS.1 hwb.1.1) dX0_partsEnough_55 ?_
              have L74 : ∀ {N3 : Int → Int}, (¬ OKP vt H (U u) S q.toNat) → (KN n vt H N3) → V 0 0 74 [(t, eO 0 [.ref aL, .ref aU, .ref aP, .ref aK, .ref aN, .ref aH, .int (iI cu), .int (iI cp), .int (iI (pI (cb = true)))]), (aP, eI G 1664 wP), (aN, eI G 8192 N3)] [some (.ref t), none, none, none, none, none, none] [] := by
                intro N3 hno hN3
                refine M.iconst (pc := 74) dX0_partsEnough_74 ?_
                exact EI (false, N3) _ _ _ _ dX0_partsEnough_75 (Or.inr ⟨rfl, by first | exact Or.inl rfl | exact Or.inr rfl | exact pI_01 _⟩) (rfl) (rfl) (⟨⟨fun z => absurd (show false = true from z) (by decide), fun z => absurd z hno⟩, hN3⟩)
              refine M.istore (pc := 56) (i := 6) (Nat.le_of_ble_eq_true rfl) rfl dX0_partsEnough_56 ?_
              dsimp only [List.set_cons_zero, List.set_cons_succ]
              refine M.iload (pc := 58) (i := 6) rfl dX0_partsEnough_58 ?_
              refine M.iloadn (pc := 60) 2 rfl rfl dX0_partsEnough_60 ?_
              refine M.icmp_eq (pc := 61) (tgt := 74) dX0_partsEnough_61 (by decide) (by omega) (by omega) (fun c61 => ?_) (fun c61 => ?_)
              · refine M.forget 1 ?_
                dsimp only [List.set_cons_zero, List.set_cons_succ]
                refine M.forget 2 ?_
                dsimp only [List.set_cons_zero, List.set_cons_succ]
                refine M.forget 3 ?_
                dsimp only [List.set_cons_zero, List.set_cons_succ]
                refine M.forget 4 ?_
                dsimp only [List.set_cons_zero, List.set_cons_succ]
                refine M.forget 5 ?_
                dsimp only [List.set_cons_zero, List.set_cons_succ]
                refine M.forget 6 ?_
                dsimp only [List.set_cons_zero, List.set_cons_succ]
                exact L74  (by exact OKP.no hS hM.1 (hj j hjj.1 hjJ).2 (Or.inl c61)) (by exact hN2)
              · refine M.aloadn (pc := 64) 0 rfl rfl dX0_partsEnough_64 ?_
                refine M.iload (pc := 65) (i := 6) rfl dX0_partsEnough_65 ?_
                refine M.iloadn (pc := 67) 3 rfl rfl dX0_partsEnough_67 ?_
                refine M.mS (pc := 68) (c_X0_isEnough_0 (n := n) (U := U) (H := H) (vt := vt) (by first | assumption | omega) (by exact hE) (by omega) (by exact hM.sub (fun d hd => (me_land hd).1)) (by exact hq) (by exact hN2)) ms_X0_114 [0, 1, 2] rfl rfl rfl rfl (Nat.le_of_ble_eq_true rfl) rfl ⟨(Nat.le_of_ble_eq_true rfl), (Nat.le_of_ble_eq_true rfl)⟩ ⟨(Nat.le_of_ble_eq_true rfl), (Nat.le_of_ble_eq_true rfl)⟩ rfl (fun _ => rfl) dX0_partsEnough_68 (fun u68 hu68 => ?_)
                obtain ⟨r68, N68⟩ := u68
                dsimp only [putL, List.set_cons_zero, List.set_cons_succ, Option.toList, List.cons_append, List.nil_append] at hu68 ⊢
                refine M.if_neP (pc := 71) (tgt := 76) dX0_partsEnough_71 (by decide) (fun c71 => ?_) (fun c71 => ?_)
                · refine M.iinc (pc := 76) (i := 4) rfl rfl dX0_partsEnough_76 ?_
                  dsimp only [List.set_cons_zero, List.set_cons_succ]
                  refine M.goto (pc := 79) (tgt := 6) dX0_partsEnough_79 (by decide) ?_
                  refine M.forget 5 ?_
                  dsimp only [List.set_cons_zero, List.set_cons_succ]
                  refine M.forget 6 ?_
                  dsimp only [List.set_cons_zero, List.set_cons_succ]
                  rw [show u * 13 + j + 1 = u * 13 + (j + 1) by omega]
                  exact ih6  (by first | assumption | omega) (by intro i h0 h1; rcases (by omega : i < j ∨ i = j) with w | w; exact hok i h0 w; rw [w]; exact ⟨c61, hu68.1.mp c71⟩) (by exact hu68.2) (by omega)
                · refine M.forget 1 ?_
                  dsimp only [List.set_cons_zero, List.set_cons_succ]
                  refine M.forget 2 ?_
                  dsimp only [List.set_cons_zero, List.set_cons_succ]
                  refine M.forget 3 ?_
                  dsimp only [List.set_cons_zero, List.set_cons_succ]
                  refine M.forget 4 ?_
                  dsimp only [List.set_cons_zero, List.set_cons_succ]
                  refine M.forget 5 ?_
                  dsimp only [List.set_cons_zero, List.set_cons_succ]
                  refine M.forget 6 ?_
                  dsimp only [List.set_cons_zero, List.set_cons_succ]
                  exact L74  (by exact OKP.no hS hM.1 (hj j hjj.1 hjJ).2 (Or.inr (fun z => c71 (hu68.1.mpr z)))) (by exact hu68.2)
            · refine M.iconst (pc := 50) dX0_partsEnough_50 ?_
              exact EI (true, N2) _ _ _ _ dX0_partsEnough_51 (Or.inr ⟨rfl, by first | exact Or.inl rfl | exact Or.inr rfl | exact pI_01 _⟩) (rfl) (rfl) (⟨⟨fun _ => OKP.of hS hM.1 hx (by rw [← hwb.2 c47]; exact hok), fun _ => rfl⟩, hN2⟩)
  rw [show u * 13 = u * 13 + 0 by omega]
  exact L6 _ (j := 0) (by first | assumption | omega) (by intro i _ h; omega) (by first | assumption | omega) (Nat.lt_succ_self _)
set_option maxHeartbeats 4000000 in
set_option maxRecDepth 100000 in
theorem c_X0_isEnough_1 {l : Launch} {G : GT} {t aL aU aP aK aN aH : Nat} {cu cp : Int} {cb : Bool} {wP : Int → Int} {wN : Int → Int} {U : Int → Int} {H : Int → Int → Int} {n : Int} {vt : Int → Prop} {S q : Int} (hn : 0 ≤ n ∧ n ≤ 6) (hE : TBE n vt H cu U wP) (hS : 0 ≤ S ∧ S < 8192) (hM : MGD n vt H S) (hq : 0 ≤ q ∧ q ≤ 1) (hN : KN n vt H wN) : Con l G yX0_isEnough cX0_isEnough 7 (some .boolean) { frames := 2, cells := 0, slots := 0, locals := 52 } [.ref t, .int (iI S), .int (iI q)] [(t, eO 0 [.ref aL, .ref aU, .ref aP, .ref aK, .ref aN, .ref aH, .int (iI cu), .int (iI cp), .int (iI (pI (cb = true)))]), (aP, eI G 1664 wP), (aN, eI G 8192 wN)] (S := Bool × (Int → Int)) (fun u => some (.int (iI (pI (u.1 = true))))) (fun u => [(t, eO 0 [.ref aL, .ref aU, .ref aP, .ref aK, .ref aN, .ref aH, .int (iI cu), .int (iI cp), .int (iI (pI (cb = true)))]), (aP, eI G 1664 wP), (aN, eI G 8192 u.2)]) (fun u => (u.1 = true ↔ NL vt H q.toNat S) ∧ KN n vt H u.2) := by
  refine Con.mk (by decide +kernel) [some (.ref t), some (.int (iI S)), some (.int (iI q)), none, none, none, none] rfl (Nat.le_of_ble_eq_true rfl) rfl ?_
  intro V M EI EL EV EA
  obtain ⟨h1a, h1b, h1c, h1d⟩ := one_ok hS
  have hkn := hN S hS hM
  have hkb := hkn.1
  have hEc := hE.1
  have hy0 : sub1 S = 0 → NL0 vt H S := fun z c d hc hd => by rw [h1c z c d hc hd]; exact fun _ _ => rfl
  have hn0 : sub1 S ≠ 0 → ¬ NL0 vt H S := fun z w => by
    obtain ⟨c, d, hc, hd, hcd⟩ := h1d z
    exact hcd (hM.2 c d hc hd (w c d hc hd))
  refine M.iloadn (pc := 0) 1 rfl rfl dX0_isEnough_0 ?_
  refine M.iloadn (pc := 1) 1 rfl rfl dX0_isEnough_1 ?_
  refine M.iconst (pc := 2) dX0_isEnough_2 ?_
  refine M.isub (pc := 3) dX0_isEnough_3 ?_
  refine M.iand (pc := 4) (h1a) dX0_isEnough_4 ?_
  refine M.if_ne (pc := 5) (tgt := 10) dX0_isEnough_5 (by decide) (by omega) (fun c5 => ?_) (fun c5 => ?_)
  · refine M.iloadn (pc := 10) 2 rfl rfl dX0_isEnough_10 ?_
    refine M.if_le (pc := 11) (tgt := 27) dX0_isEnough_11 (by decide) (by omega) (fun c11 => ?_) (fun c11 => ?_)
    · refine M.iconst (pc := 27) dX0_isEnough_27 ?_
      exact EI (false, wN) _ _ _ _ dX0_isEnough_28 (Or.inr ⟨rfl, by first | exact Or.inl rfl | exact Or.inr rfl | exact pI_01 _⟩) (rfl) (rfl) (⟨⟨fun z => absurd (show false = true from z) (by decide), fun z => absurd (show NL vt H 0 S by rw [show q.toNat = 0 by omega] at z; exact z) (hn0 c5)⟩, hN⟩)
    · refine M.iloadn (pc := 14) 1 rfl rfl dX0_isEnough_14 ?_
      refine M.if_lt (pc := 15) (tgt := 27) dX0_isEnough_15 (by decide) (by omega) (fun c15 => ?_) (fun c15 => ?_)
      · exact absurd c15 (by omega)
      · refine M.iloadn (pc := 18) 1 rfl rfl dX0_isEnough_18 ?_
        refine M.aloadn (pc := 19) 0 rfl rfl dX0_isEnough_19 ?_
        refine M.getf (pc := 20) fg_X0_25 0 rfl rfl dX0_isEnough_20 ?_
        refine M.alenI (pc := 23) 2 rfl dX0_isEnough_23 ?_
        refine M.icmp_lt (pc := 24) (tgt := 29) dX0_isEnough_24 (by decide) (by omega) (by omega) (fun c24 => ?_) (fun c24 => ?_)
        · refine M.aloadn (pc := 29) 0 rfl rfl dX0_isEnough_29 ?_
          refine M.getf (pc := 30) fg_X0_25 0 rfl rfl dX0_isEnough_30 ?_
          refine M.iloadn (pc := 33) 1 rfl rfl dX0_isEnough_33 ?_
          refine M.iald (pc := 34) 2 rfl (by omega) (by omega) dX0_isEnough_34 ?_
          refine M.bipush (pc := 35) (by decide +kernel) dX0_isEnough_35 ?_
          refine M.iand (pc := 37) (and15 (by omega)) dX0_isEnough_37 ?_
          refine M.istoren (pc := 38) 3 rfl (Nat.le_of_ble_eq_true rfl) rfl dX0_isEnough_38 ?_
          dsimp only [List.set_cons_zero, List.set_cons_succ]
          refine M.aloadn (pc := 39) 0 rfl rfl dX0_isEnough_39 ?_
          refine M.getf (pc := 40) fg_X0_25 0 rfl rfl dX0_isEnough_40 ?_
          refine M.iloadn (pc := 43) 1 rfl rfl dX0_isEnough_43 ?_
          refine M.iald (pc := 44) 2 rfl (by omega) (by omega) dX0_isEnough_44 ?_
          refine M.iconst (pc := 45) dX0_isEnough_45 ?_
          refine M.ishr (pc := 46) (shr4 (by omega) (by omega)) dX0_isEnough_46 ?_
          refine M.istore (pc := 47) (i := 4) (Nat.le_of_ble_eq_true rfl) rfl dX0_isEnough_47 ?_
          dsimp only [List.set_cons_zero, List.set_cons_succ]
          have L75 : ∀ {r : Bool}, (r = true ↔ NL vt H q.toNat S) → V 0 0 75 [(t, eO 0 [.ref aL, .ref aU, .ref aP, .ref aK, .ref aN, .ref aH, .int (iI cu), .int (iI cp), .int (iI (pI (cb = true)))]), (aP, eI G 1664 wP), (aN, eI G 8192 wN)] [some (.ref t), none, none, none, none, none, none] [.int (iI (pI (r = true)))] := by
            intro r hr
            exact EI (r, wN) _ _ _ _ dX0_isEnough_75 (Or.inr ⟨rfl, by first | exact Or.inl rfl | exact Or.inr rfl | exact pI_01 _⟩) (rfl) (rfl) (⟨hr, hN⟩)
          refine M.iloadn (pc := 49) 2 rfl rfl dX0_isEnough_49 ?_
          refine M.iloadn (pc := 50) 3 rfl rfl dX0_isEnough_50 ?_
          refine M.icmp_le (pc := 51) (tgt := 65) dX0_isEnough_51 (by decide) (by omega) (by omega) (fun c51 => ?_) (fun c51 => ?_)
          · refine M.iloadn (pc := 65) 2 rfl rfl dX0_isEnough_65 ?_
            refine M.iloadn (pc := 66) 3 rfl rfl dX0_isEnough_66 ?_
            refine M.icmp_le (pc := 67) (tgt := 74) dX0_isEnough_67 (by decide) (by omega) (by omega) (fun c67 => ?_) (fun c67 => ?_)
            · refine M.iconst (pc := 74) dX0_isEnough_74 ?_
              refine M.forget 1 ?_
              dsimp only [List.set_cons_zero, List.set_cons_succ]
              refine M.forget 2 ?_
              dsimp only [List.set_cons_zero, List.set_cons_succ]
              refine M.forget 3 ?_
              dsimp only [List.set_cons_zero, List.set_cons_succ]
              refine M.forget 4 ?_
              dsimp only [List.set_cons_zero, List.set_cons_succ]
              exact L75 (r := false) (by exact ⟨fun z => absurd z (by decide), fun z => absurd (NL.up (by omega) z) (hkn.2.1 (by omega))⟩)
            · refine M.iconst (pc := 70) dX0_isEnough_70 ?_
              refine M.goto (pc := 71) (tgt := 75) dX0_isEnough_71 (by decide) ?_
              refine M.forget 1 ?_
              dsimp only [List.set_cons_zero, List.set_cons_succ]
              refine M.forget 2 ?_
              dsimp only [List.set_cons_zero, List.set_cons_succ]
              refine M.forget 3 ?_
              dsimp only [List.set_cons_zero, List.set_cons_succ]
              refine M.forget 4 ?_
              dsimp only [List.set_cons_zero, List.set_cons_succ]
              exact L75 (r := true) (by exact ⟨fun _ => (by first | exact absurd c51 (by omega) | exact (hkn.2.2 c56).up (by omega)), fun _ => rfl⟩)
          · refine M.iload (pc := 54) (i := 4) rfl dX0_isEnough_54 ?_
            refine M.if_eq (pc := 56) (tgt := 76) dX0_isEnough_56 (by decide) (by omega) (fun c56 => ?_) (fun c56 => ?_)
            · refine M.iconst (pc := 76) dX0_isEnough_76 ?_
              refine M.istore (pc := 77) (i := 5) (Nat.le_of_ble_eq_true rfl) rfl dX0_isEnough_77 ?_
              dsimp only [List.set_cons_zero, List.set_cons_succ]
              refine M.iconst (pc := 79) dX0_isEnough_79 ?_
              refine M.istore (pc := 80) (i := 6) (Nat.le_of_ble_eq_true rfl) rfl dX0_isEnough_80 ?_
              dsimp only [List.set_cons_zero, List.set_cons_succ]
              have L82 : ∀ (fu : Nat) {f : Bool} {u : Int} {N2 : Int → Int}, (0 ≤ u ∧ u ≤ cu) → ((f = true → NL vt H q.toNat S) ∧ (f = false → ∀ v, 0 ≤ v → v < u → ¬ OKP vt H (U v) S (q - 1).toNat)) → (KN n vt H N2) → (cu - u).toNat < fu → V 0 0 82 [(t, eO 0 [.ref aL, .ref aU, .ref aP, .ref aK, .ref aN, .ref aH, .int (iI cu), .int (iI cp), .int (iI (pI (cb = true)))]), (aP, eI G 1664 wP), (aN, eI G 8192 N2)] [some (.ref t), some (.int (iI S)), some (.int (iI q)), some (.int (iI (wN S % 16))), some (.int (iI (wN S / 16))), some (.int (iI (pI (f = true)))), some (.int (iI u))] [] := by
                intro fu
                induction fu with
                | zero => intro f u N2 hu hf hN2 hm; exact absurd hm (Nat.not_lt_zero _)
                | succ fu ih82 =>
                  intro f u N2 hu hf hN2 hm82
                  refine M.iload (pc := 82) (i := 5) rfl dX0_isEnough_82 ?_
                  have L114 : (f = true ↔ NL vt H q.toNat S) → V 0 0 114 [(t, eO 0 [.ref aL, .ref aU, .ref aP, .ref aK, .ref aN, .ref aH, .int (iI cu), .int (iI cp), .int (iI (pI (cb = true)))]), (aP, eI G 1664 wP), (aN, eI G 8192 N2)] [some (.ref t), some (.int (iI S)), some (.int (iI q)), some (.int (iI (wN S % 16))), some (.int (iI (wN S / 16))), some (.int (iI (pI (f = true)))), some (.int (iI u))] [] := by
                    intro  hfin
                    refine M.aloadn (pc := 114) 0 rfl rfl dX0_isEnough_114 ?_
                    refine M.getf (pc := 115) fg_X0_25 0 rfl rfl dX0_isEnough_115 ?_
                    have L138 : ∀ {val : Int}, (KN n vt H (upZ N2 S val)) → V 0 0 138 [(t, eO 0 [.ref aL, .ref aU, .ref aP, .ref aK, .ref aN, .ref aH, .int (iI cu), .int (iI cp), .int (iI (pI (cb = true)))]), (aP, eI G 1664 wP), (aN, eI G 8192 N2)] [some (.ref t), some (.int (iI S)), some (.int (iI q)), some (.int (iI (wN S % 16))), some (.int (iI (wN S / 16))), some (.int (iI (pI (f = true)))), some (.int (iI u))] [.int (iI val), .int (iI S), .ref aN] := by
                      intro val hval
                      refine M.iast (pc := 138) 2 rfl (by omega) (by omega) dX0_isEnough_138 ?_
                      dsimp only [List.set_cons_zero, List.set_cons_succ]
                      refine M.iload (pc := 139) (i := 5) rfl dX0_isEnough_139 ?_
                      exact EI (f, upZ N2 S val) _ _ _ _ dX0_isEnough_141 (Or.inr ⟨rfl, by first | exact Or.inl rfl | exact Or.inr rfl | exact pI_01 _⟩) (rfl) (rfl) (⟨hfin, hval⟩)
                    refine M.iloadn (pc := 118) 1 rfl rfl dX0_isEnough_118 ?_
                    refine M.iload (pc := 119) (i := 5) rfl dX0_isEnough_119 ?_
                    refine M.if_eqP (pc := 121) (tgt := 132) dX0_isEnough_121 (by decide) (fun c121 => ?_) (fun c121 => ?_)
                    · refine M.iloadn (pc := 132) 2 rfl rfl dX0_isEnough_132 ?_
                      refine M.iload (pc := 133) (i := 4) rfl dX0_isEnough_133 ?_
                      refine M.iconst (pc := 135) dX0_isEnough_135 ?_
                      refine M.ishl (pc := 136) (sh4 (by omega)) dX0_isEnough_136 ?_
                      refine M.ior (pc := 137) (or4 (by omega) (by omega)) dX0_isEnough_137 ?_
                      have e1 : (q + wN S / 16 * 16) % 16 = q := by omega
                      have e2 : (q + wN S / 16 * 16) / 16 = wN S / 16 := by omega
                      exact L138  (by exact hN2.up (by rw [e1, e2]; omega) (by rw [e1]; exact fun _ z => c121 (hfin.mpr z)) (by rw [e2]; exact hkn.2.2))
                    · refine M.iloadn (pc := 124) 3 rfl rfl dX0_isEnough_124 ?_
                      refine M.iloadn (pc := 125) 2 rfl rfl dX0_isEnough_125 ?_
                      refine M.iconst (pc := 126) dX0_isEnough_126 ?_
                      refine M.ishl (pc := 127) (sh4 (by omega)) dX0_isEnough_127 ?_
                      refine M.ior (pc := 128) (or4 (by omega) (by omega)) dX0_isEnough_128 ?_
                      refine M.goto (pc := 129) (tgt := 138) dX0_isEnough_129 (by decide) ?_
                      have e1 : (wN S % 16 + q * 16) % 16 = wN S % 16 := by omega
                      have e2 : (wN S % 16 + q * 16) / 16 = q := by omega
                      exact L138  (by exact hN2.up (by rw [e1, e2]; omega) (by rw [e1]; exact hkn.2.1) (by rw [e2]; exact fun _ => hfin.mp c121))
                  refine M.if_neP (pc := 84) (tgt := 114) dX0_isEnough_84 (by decide) (fun c84 => ?_) (fun c84 => ?_)
                  · exact L114  (by exact ⟨fun _ => hf.1 c84, fun _ => c84⟩)
                  · refine M.iload (pc := 87) (i := 6) rfl dX0_isEnough_87 ?_
                    refine M.aloadn (pc := 89) 0 rfl rfl dX0_isEnough_89 ?_
                    refine M.getf (pc := 90) fg_X0_43 0 rfl rfl dX0_isEnough_90 ?_
                    refine M.icmp_ge (pc := 93) (tgt := 114) dX0_isEnough_93 (by decide) (by omega) (by omega) (fun c93 => ?_) (fun c93 => ?_)
                    · exact L114  (by exact ⟨fun z => absurd z c84, fun z => absurd (NL.okp (by omega) (hn0 c5) z) (fun ⟨s, h1, h2⟩ => (hE.cov hn hM.1 h1 h2).elim (fun v hv => hf.2 (Bool.eq_false_iff.mpr c84) v hv.1.1 (by omega) hv.2.2))⟩)
                    · refine M.aloadn (pc := 96) 0 rfl rfl dX0_isEnough_96 ?_
                      refine M.iload (pc := 97) (i := 6) rfl dX0_isEnough_97 ?_
                      refine M.iloadn (pc := 99) 1 rfl rfl dX0_isEnough_99 ?_
                      refine M.iloadn (pc := 100) 2 rfl rfl dX0_isEnough_100 ?_
                      refine M.iconst (pc := 101) dX0_isEnough_101 ?_
                      refine M.isub (pc := 102) dX0_isEnough_102 ?_
                      refine M.mS (pc := 103) (c_X0_partsEnough_0 (n := n) (U := U) (H := H) (vt := vt) (by first | assumption | omega) (by exact hE) (by exact hS) (by exact hM) (by omega) (by exact hN2) (by omega)) ms_X0_118 [0, 1, 2] rfl rfl rfl rfl (Nat.le_of_ble_eq_true rfl) rfl ⟨(Nat.le_of_ble_eq_true rfl), (Nat.le_of_ble_eq_true rfl)⟩ ⟨(Nat.le_of_ble_eq_true rfl), (Nat.le_of_ble_eq_true rfl)⟩ rfl (fun _ => rfl) dX0_isEnough_103 (fun u103 hu103 => ?_)
                      obtain ⟨r103, N103⟩ := u103
                      dsimp only [putL, List.set_cons_zero, List.set_cons_succ, Option.toList, List.cons_append, List.nil_append] at hu103 ⊢
                      refine M.istore (pc := 106) (i := 5) (Nat.le_of_ble_eq_true rfl) rfl dX0_isEnough_106 ?_
                      dsimp only [List.set_cons_zero, List.set_cons_succ]
                      refine M.iinc (pc := 108) (i := 6) rfl rfl dX0_isEnough_108 ?_
                      dsimp only [List.set_cons_zero, List.set_cons_succ]
                      refine M.goto (pc := 111) (tgt := 82) dX0_isEnough_111 (by decide) ?_
                      exact ih82  (by first | assumption | omega) (by exact ⟨fun z => OKP.nl (by omega) (hE.2.1 u hu.1 (by omega)).1 (hu103.1.mp z), fun z v h0 h1 => (by omega : v < u ∨ v = u).elim (fun w => hf.2 (Bool.eq_false_iff.mpr c84) v h0 w) (fun w y => absurd (hu103.1.mpr (by rw [← w]; exact y)) (by show ¬ r103 = true; rw [show r103 = false from z]; decide))⟩) (by exact hu103.2) (by omega)
              exact L82 _ (f := false) (by first | assumption | omega) (by exact ⟨fun z => absurd z (by decide), fun _ v _ h => by omega⟩) (by first | assumption | omega) (Nat.lt_succ_self _)
            · refine M.iloadn (pc := 59) 2 rfl rfl dX0_isEnough_59 ?_
              refine M.iload (pc := 60) (i := 4) rfl dX0_isEnough_60 ?_
              refine M.icmp_lt (pc := 62) (tgt := 76) dX0_isEnough_62 (by decide) (by omega) (by omega) (fun c62 => ?_) (fun c62 => ?_)
              · refine M.iconst (pc := 76) dX0_isEnough_76 ?_
                refine M.istore (pc := 77) (i := 5) (Nat.le_of_ble_eq_true rfl) rfl dX0_isEnough_77 ?_
                dsimp only [List.set_cons_zero, List.set_cons_succ]
                refine M.iconst (pc := 79) dX0_isEnough_79 ?_
                refine M.istore (pc := 80) (i := 6) (Nat.le_of_ble_eq_true rfl) rfl dX0_isEnough_80 ?_
                dsimp only [List.set_cons_zero, List.set_cons_succ]
                have L82 : ∀ (fu : Nat) {f : Bool} {u : Int} {N2 : Int → Int}, (0 ≤ u ∧ u ≤ cu) → ((f = true → NL vt H q.toNat S) ∧ (f = false → ∀ v, 0 ≤ v → v < u → ¬ OKP vt H (U v) S (q - 1).toNat)) → (KN n vt H N2) → (cu - u).toNat < fu → V 0 0 82 [(t, eO 0 [.ref aL, .ref aU, .ref aP, .ref aK, .ref aN, .ref aH, .int (iI cu), .int (iI cp), .int (iI (pI (cb = true)))]), (aP, eI G 1664 wP), (aN, eI G 8192 N2)] [some (.ref t), some (.int (iI S)), some (.int (iI q)), some (.int (iI (wN S % 16))), some (.int (iI (wN S / 16))), some (.int (iI (pI (f = true)))), some (.int (iI u))] [] := by
                  intro fu
                  induction fu with
                  | zero => intro f u N2 hu hf hN2 hm; exact absurd hm (Nat.not_lt_zero _)
                  | succ fu ih82 =>
                    intro f u N2 hu hf hN2 hm82
                    refine M.iload (pc := 82) (i := 5) rfl dX0_isEnough_82 ?_
                    have L114 : (f = true ↔ NL vt H q.toNat S) → V 0 0 114 [(t, eO 0 [.ref aL, .ref aU, .ref aP, .ref aK, .ref aN, .ref aH, .int (iI cu), .int (iI cp), .int (iI (pI (cb = true)))]), (aP, eI G 1664 wP), (aN, eI G 8192 N2)] [some (.ref t), some (.int (iI S)), some (.int (iI q)), some (.int (iI (wN S % 16))), some (.int (iI (wN S / 16))), some (.int (iI (pI (f = true)))), some (.int (iI u))] [] := by
                      intro  hfin
                      refine M.aloadn (pc := 114) 0 rfl rfl dX0_isEnough_114 ?_
                      refine M.getf (pc := 115) fg_X0_25 0 rfl rfl dX0_isEnough_115 ?_
                      have L138 : ∀ {val : Int}, (KN n vt H (upZ N2 S val)) → V 0 0 138 [(t, eO 0 [.ref aL, .ref aU, .ref aP, .ref aK, .ref aN, .ref aH, .int (iI cu), .int (iI cp), .int (iI (pI (cb = true)))]), (aP, eI G 1664 wP), (aN, eI G 8192 N2)] [some (.ref t), some (.int (iI S)), some (.int (iI q)), some (.int (iI (wN S % 16))), some (.int (iI (wN S / 16))), some (.int (iI (pI (f = true)))), some (.int (iI u))] [.int (iI val), .int (iI S), .ref aN] := by
                        intro val hval
                        refine M.iast (pc := 138) 2 rfl (by omega) (by omega) dX0_isEnough_138 ?_
                        dsimp only [List.set_cons_zero, List.set_cons_succ]
                        refine M.iload (pc := 139) (i := 5) rfl dX0_isEnough_139 ?_
                        exact EI (f, upZ N2 S val) _ _ _ _ dX0_isEnough_141 (Or.inr ⟨rfl, by first | exact Or.inl rfl | exact Or.inr rfl | exact pI_01 _⟩) (rfl) (rfl) (⟨hfin, hval⟩)
                      refine M.iloadn (pc := 118) 1 rfl rfl dX0_isEnough_118 ?_
                      refine M.iload (pc := 119) (i := 5) rfl dX0_isEnough_119 ?_
                      refine M.if_eqP (pc := 121) (tgt := 132) dX0_isEnough_121 (by decide) (fun c121 => ?_) (fun c121 => ?_)
                      · refine M.iloadn (pc := 132) 2 rfl rfl dX0_isEnough_132 ?_
                        refine M.iload (pc := 133) (i := 4) rfl dX0_isEnough_133 ?_
                        refine M.iconst (pc := 135) dX0_isEnough_135 ?_
                        refine M.ishl (pc := 136) (sh4 (by omega)) dX0_isEnough_136 ?_
                        refine M.ior (pc := 137) (or4 (by omega) (by omega)) dX0_isEnough_137 ?_
                        have e1 : (q + wN S / 16 * 16) % 16 = q := by omega
                        have e2 : (q + wN S / 16 * 16) / 16 = wN S / 16 := by omega
                        exact L138  (by exact hN2.up (by rw [e1, e2]; omega) (by rw [e1]; exact fun _ z => c121 (hfin.mpr z)) (by rw [e2]; exact hkn.2.2))
                      · refine M.iloadn (pc := 124) 3 rfl rfl dX0_isEnough_124 ?_
                        refine M.iloadn (pc := 125) 2 rfl rfl dX0_isEnough_125 ?_
                        refine M.iconst (pc := 126) dX0_isEnough_126 ?_
                        refine M.ishl (pc := 127) (sh4 (by omega)) dX0_isEnough_127 ?_
                        refine M.ior (pc := 128) (or4 (by omega) (by omega)) dX0_isEnough_128 ?_
                        refine M.goto (pc := 129) (tgt := 138) dX0_isEnough_129 (by decide) ?_
                        have e1 : (wN S % 16 + q * 16) % 16 = wN S % 16 := by omega
                        have e2 : (wN S % 16 + q * 16) / 16 = q := by omega
                        exact L138  (by exact hN2.up (by rw [e1, e2]; omega) (by rw [e1]; exact hkn.2.1) (by rw [e2]; exact fun _ => hfin.mp c121))
                    refine M.if_neP (pc := 84) (tgt := 114) dX0_isEnough_84 (by decide) (fun c84 => ?_) (fun c84 => ?_)
                    · exact L114  (by exact ⟨fun _ => hf.1 c84, fun _ => c84⟩)
                    · refine M.iload (pc := 87) (i := 6) rfl dX0_isEnough_87 ?_
                      refine M.aloadn (pc := 89) 0 rfl rfl dX0_isEnough_89 ?_
                      refine M.getf (pc := 90) fg_X0_43 0 rfl rfl dX0_isEnough_90 ?_
                      refine M.icmp_ge (pc := 93) (tgt := 114) dX0_isEnough_93 (by decide) (by omega) (by omega) (fun c93 => ?_) (fun c93 => ?_)
                      · exact L114  (by exact ⟨fun z => absurd z c84, fun z => absurd (NL.okp (by omega) (hn0 c5) z) (fun ⟨s, h1, h2⟩ => (hE.cov hn hM.1 h1 h2).elim (fun v hv => hf.2 (Bool.eq_false_iff.mpr c84) v hv.1.1 (by omega) hv.2.2))⟩)
                      · refine M.aloadn (pc := 96) 0 rfl rfl dX0_isEnough_96 ?_
                        refine M.iload (pc := 97) (i := 6) rfl dX0_isEnough_97 ?_
                        refine M.iloadn (pc := 99) 1 rfl rfl dX0_isEnough_99 ?_
                        refine M.iloadn (pc := 100) 2 rfl rfl dX0_isEnough_100 ?_
                        refine M.iconst (pc := 101) dX0_isEnough_101 ?_
                        refine M.isub (pc := 102) dX0_isEnough_102 ?_
                        refine M.mS (pc := 103) (c_X0_partsEnough_0 (n := n) (U := U) (H := H) (vt := vt) (by first | assumption | omega) (by exact hE) (by exact hS) (by exact hM) (by omega) (by exact hN2) (by omega)) ms_X0_118 [0, 1, 2] rfl rfl rfl rfl (Nat.le_of_ble_eq_true rfl) rfl ⟨(Nat.le_of_ble_eq_true rfl), (Nat.le_of_ble_eq_true rfl)⟩ ⟨(Nat.le_of_ble_eq_true rfl), (Nat.le_of_ble_eq_true rfl)⟩ rfl (fun _ => rfl) dX0_isEnough_103 (fun u103 hu103 => ?_)
                        obtain ⟨r103, N103⟩ := u103
                        dsimp only [putL, List.set_cons_zero, List.set_cons_succ, Option.toList, List.cons_append, List.nil_append] at hu103 ⊢
                        refine M.istore (pc := 106) (i := 5) (Nat.le_of_ble_eq_true rfl) rfl dX0_isEnough_106 ?_
                        dsimp only [List.set_cons_zero, List.set_cons_succ]
                        refine M.iinc (pc := 108) (i := 6) rfl rfl dX0_isEnough_108 ?_
                        dsimp only [List.set_cons_zero, List.set_cons_succ]
                        refine M.goto (pc := 111) (tgt := 82) dX0_isEnough_111 (by decide) ?_
                        exact ih82  (by first | assumption | omega) (by exact ⟨fun z => OKP.nl (by omega) (hE.2.1 u hu.1 (by omega)).1 (hu103.1.mp z), fun z v h0 h1 => (by omega : v < u ∨ v = u).elim (fun w => hf.2 (Bool.eq_false_iff.mpr c84) v h0 w) (fun w y => absurd (hu103.1.mpr (by rw [← w]; exact y)) (by show ¬ r103 = true; rw [show r103 = false from z]; decide))⟩) (by exact hu103.2) (by omega)
                exact L82 _ (f := false) (by first | assumption | omega) (by exact ⟨fun z => absurd z (by decide), fun _ v _ h => by omega⟩) (by first | assumption | omega) (Nat.lt_succ_self _)
              · refine M.iloadn (pc := 65) 2 rfl rfl dX0_isEnough_65 ?_
                refine M.iloadn (pc := 66) 3 rfl rfl dX0_isEnough_66 ?_
                refine M.icmp_le (pc := 67) (tgt := 74) dX0_isEnough_67 (by decide) (by omega) (by omega) (fun c67 => ?_) (fun c67 => ?_)
                · refine M.iconst (pc := 74) dX0_isEnough_74 ?_
                  refine M.forget 1 ?_
                  dsimp only [List.set_cons_zero, List.set_cons_succ]
                  refine M.forget 2 ?_
                  dsimp only [List.set_cons_zero, List.set_cons_succ]
                  refine M.forget 3 ?_
                  dsimp only [List.set_cons_zero, List.set_cons_succ]
                  refine M.forget 4 ?_
                  dsimp only [List.set_cons_zero, List.set_cons_succ]
                  exact L75 (r := false) (by exact ⟨fun z => absurd z (by decide), fun z => absurd (NL.up (by omega) z) (hkn.2.1 (by omega))⟩)
                · refine M.iconst (pc := 70) dX0_isEnough_70 ?_
                  refine M.goto (pc := 71) (tgt := 75) dX0_isEnough_71 (by decide) ?_
                  refine M.forget 1 ?_
                  dsimp only [List.set_cons_zero, List.set_cons_succ]
                  refine M.forget 2 ?_
                  dsimp only [List.set_cons_zero, List.set_cons_succ]
                  refine M.forget 3 ?_
                  dsimp only [List.set_cons_zero, List.set_cons_succ]
                  refine M.forget 4 ?_
                  dsimp only [List.set_cons_zero, List.set_cons_succ]
                  exact L75 (r := true) (by exact ⟨fun _ => (by first | exact absurd c51 (by omega) | exact (hkn.2.2 c56).up (by omega)), fun _ => rfl⟩)
        · exact absurd c24 (by omega)
  · refine M.iconst (pc := 8) dX0_isEnough_8 ?_
    exact EI (true, wN) _ _ _ _ dX0_isEnough_9 (Or.inr ⟨rfl, by first | exact Or.inl rfl | exact Or.inr rfl | exact pI_01 _⟩) (rfl) (rfl) (⟨⟨fun _ => NL.up (Nat.zero_le _) (show NL vt H 0 S from hy0 c5), fun _ => rfl⟩, hN⟩)
set_option maxHeartbeats 4000000 in
set_option maxRecDepth 100000 in
theorem c_X0_partsEnough_1 {l : Launch} {G : GT} {t aL aU aP aK aN aH : Nat} {cu cp : Int} {cb : Bool} {wP : Int → Int} {wN : Int → Int} {U : Int → Int} {H : Int → Int → Int} {n : Int} {vt : Int → Prop} {u S q : Int} (hn : 0 ≤ n ∧ n ≤ 6) (hE : TBE n vt H cu U wP) (hS : 0 ≤ S ∧ S < 8192) (hM : MGD n vt H S) (hq : 0 ≤ q ∧ q ≤ 1) (hN : KN n vt H wN) (hu : 0 ≤ u ∧ u < cu) : Con l G yX0_partsEnough cX0_partsEnough 7 (some .boolean) { frames := 3, cells := 0, slots := 0, locals := 78 } [.ref t, .int (iI u), .int (iI S), .int (iI q)] [(t, eO 0 [.ref aL, .ref aU, .ref aP, .ref aK, .ref aN, .ref aH, .int (iI cu), .int (iI cp), .int (iI (pI (cb = true)))]), (aP, eI G 1664 wP), (aN, eI G 8192 wN)] (S := Bool × (Int → Int)) (fun u => some (.int (iI (pI (u.1 = true))))) (fun u => [(t, eO 0 [.ref aL, .ref aU, .ref aP, .ref aK, .ref aN, .ref aH, .int (iI cu), .int (iI cp), .int (iI (pI (cb = true)))]), (aP, eI G 1664 wP), (aN, eI G 8192 u.2)]) (fun x => (x.1 = true ↔ OKP vt H (U u) S q.toNat) ∧ KN n vt H x.2) := by
  refine Con.mk (by decide +kernel) [some (.ref t), some (.int (iI u)), some (.int (iI S)), some (.int (iI q)), none, none, none] rfl (Nat.le_of_ble_eq_true rfl) rfl ?_
  intro V M EI EL EV EA
  have hEc := hE.1
  obtain ⟨hvt, J, hJ, hj, hz, hx⟩ := hE.2.1 u hu.1 hu.2
  refine M.iloadn (pc := 0) 1 rfl rfl dX0_partsEnough_0 ?_
  refine M.bipush (pc := 1) (by decide +kernel) dX0_partsEnough_1 ?_
  refine M.imul (pc := 3) dX0_partsEnough_3 ?_
  refine M.istore (pc := 4) (i := 4) (Nat.le_of_ble_eq_true rfl) rfl dX0_partsEnough_4 ?_
  dsimp only [List.set_cons_zero, List.set_cons_succ]
  have L6 : ∀ (fu : Nat) {j : Int} {N2 : Int → Int}, (0 ≤ j ∧ j ≤ J) → (∀ i, 0 ≤ i → i < j → land S (wP (u * 13 + i)) ≠ S ∧ NL vt H q.toNat (land S (wP (u * 13 + i)))) → (KN n vt H N2) → (13 - j).toNat < fu → V 0 0 6 [(t, eO 0 [.ref aL, .ref aU, .ref aP, .ref aK, .ref aN, .ref aH, .int (iI cu), .int (iI cp), .int (iI (pI (cb = true)))]), (aP, eI G 1664 wP), (aN, eI G 8192 N2)] [some (.ref t), some (.int (iI u)), some (.int (iI S)), some (.int (iI q)), some (.int (iI (u * 13 + j))), none, none] [] := by
    intro fu
    induction fu with
    | zero => intro j N2 hjj hok hN2 hm; exact absurd hm (Nat.not_lt_zero _)
    | succ fu ih6 =>
      intro j N2 hjj hok hN2 hm6
      refine M.iload (pc := 6) (i := 4) rfl dX0_partsEnough_6 ?_
      refine M.iloadn (pc := 8) 1 rfl rfl dX0_partsEnough_8 ?_
      refine M.iconst (pc := 9) dX0_partsEnough_9 ?_
      refine M.iadd (pc := 10) dX0_partsEnough_10 ?_
      refine M.bipush (pc := 11) (by decide +kernel) dX0_partsEnough_11 ?_
      refine M.imul (pc := 13) dX0_partsEnough_13 ?_
      refine M.icmp_ge (pc := 14) (tgt := 82) dX0_partsEnough_14 (by decide) (by omega) (by omega) (fun c14 => ?_) (fun c14 => ?_)
      · refine M.iconst (pc := 82) dX0_partsEnough_82 ?_
        exact EI (true, N2) _ _ _ _ dX0_partsEnough_83 (Or.inr ⟨rfl, by first | exact Or.inl rfl | exact Or.inr rfl | exact pI_01 _⟩) (rfl) (rfl) (⟨⟨fun _ => OKP.of hS hM.1 hx (by rw [show J = j by omega]; exact hok), fun _ => rfl⟩, hN2⟩)
      · refine M.iload (pc := 17) (i := 4) rfl dX0_partsEnough_17 ?_
        refine M.if_lt (pc := 19) (tgt := 42) dX0_partsEnough_19 (by decide) (by omega) (fun c19 => ?_) (fun c19 => ?_)
        · exact absurd c19 (by omega)
        · refine M.iload (pc := 22) (i := 4) rfl dX0_partsEnough_22 ?_
          refine M.aloadn (pc := 24) 0 rfl rfl dX0_partsEnough_24 ?_
          refine M.getf (pc := 25) fg_X0_19 0 rfl rfl dX0_partsEnough_25 ?_
          refine M.alenI (pc := 28) 1 rfl dX0_partsEnough_28 ?_
          refine M.icmp_ge (pc := 29) (tgt := 42) dX0_partsEnough_29 (by decide) (by omega) (by omega) (fun c29 => ?_) (fun c29 => ?_)
          · exact absurd c29 (by omega)
          · refine M.aloadn (pc := 32) 0 rfl rfl dX0_partsEnough_32 ?_
            refine M.getf (pc := 33) fg_X0_19 0 rfl rfl dX0_partsEnough_33 ?_
            refine M.iload (pc := 36) (i := 4) rfl dX0_partsEnough_36 ?_
            refine M.iald (pc := 38) 1 rfl (by omega) (by omega) dX0_partsEnough_38 ?_
            refine M.goto (pc := 39) (tgt := 43) dX0_partsEnough_39 (by decide) ?_
            refine M.istore (pc := 43) (i := 5) (Nat.le_of_ble_eq_true rfl) rfl dX0_partsEnough_43 ?_
            dsimp only [List.set_cons_zero, List.set_cons_succ]
            have hwb : (0 ≤ wP (u * 13 + j) ∧ wP (u * 13 + j) < 8192) ∧ (wP (u * 13 + j) = 0 → j = J) := by
              rcases (by omega : j < J ∨ j = J) with w | w
              · obtain ⟨h1, x, h2, h3⟩ := hj j hjj.1 w
                have h4 : 0 ≤ PT H (U u) (cm (prB n) 13) x ∧ PT H (U u) (cm (prB n) 13) x < 8192 := cm_13b _
                exact ⟨by rw [h3]; exact h4, fun z => absurd z h1⟩
              · have h5 := hz (by omega)
                rw [w, h5]
                exact ⟨by omega, fun _ => rfl⟩
            refine M.iload (pc := 45) (i := 5) rfl dX0_partsEnough_45 ?_
            refine M.if_ne (pc := 47) (tgt := 52) dX0_partsEnough_47 (by decide) (by omega) (fun c47 => ?_) (fun c47 => ?_)
            · have hjJ : j < J := by
                rcases (by omega : j < J ∨ j = J) with w | w
                · exact w
                · exact absurd (by rw [w]; exact hz (by omega)) c47
              have hll := land_b (a := S) (b := wP (u * 13 + j)) hS.1 hwb.1.1
              refine M.iloadn (pc := 52) 2 rfl rfl dX0_partsEnough_52 ?_
              refine M.iload (pc := 53) (i := 5) rfl dX0_partsEnough_53 ?_
              refine M.iand (pc := 55) (land_ok hS.1 hwb.1.1) dX0_partsEnough_55 ?_
              have L74 : ∀ {N3 : Int → Int}, (¬ OKP vt H (U u) S q.toNat) → (KN n vt H N3) → V 0 0 74 [(t, eO 0 [.ref aL, .ref aU, .ref aP, .ref aK, .ref aN, .ref aH, .int (iI cu), .int (iI cp), .int (iI (pI (cb = true)))]), (aP, eI G 1664 wP), (aN, eI G 8192 N3)] [some (.ref t), none, none, none, none, none, none] [] := by
                intro N3 hno hN3
                refine M.iconst (pc := 74) dX0_partsEnough_74 ?_
                exact EI (false, N3) _ _ _ _ dX0_partsEnough_75 (Or.inr ⟨rfl, by first | exact Or.inl rfl | exact Or.inr rfl | exact pI_01 _⟩) (rfl) (rfl) (⟨⟨fun z => absurd (show false = true from z) (by decide), fun z => absurd z hno⟩, hN3⟩)
              refine M.istore (pc := 56) (i := 6) (Nat.le_of_ble_eq_true rfl) rfl dX0_partsEnough_56 ?_
              dsimp only [List.set_cons_zero, List.set_cons_succ]
              refine M.iload (pc := 58) (i := 6) rfl dX0_partsEnough_58 ?_
              refine M.iloadn (pc := 60) 2 rfl rfl dX0_partsEnough_60 ?_
              refine M.icmp_eq (pc := 61) (tgt := 74) dX0_partsEnough_61 (by decide) (by omega) (by omega) (fun c61 => ?_) (fun c61 => ?_)
              · refine M.forget 1 ?_
                dsimp only [List.set_cons_zero, List.set_cons_succ]
                refine M.forget 2 ?_
                dsimp only [List.set_cons_zero, List.set_cons_succ]
                refine M.forget 3 ?_
                dsimp only [List.set_cons_zero, List.set_cons_succ]
                refine M.forget 4 ?_
                dsimp only [List.set_cons_zero, List.set_cons_succ]
                refine M.forget 5 ?_
                dsimp only [List.set_cons_zero, List.set_cons_succ]
                refine M.forget 6 ?_
                dsimp only [List.set_cons_zero, List.set_cons_succ]
                exact L74  (by exact OKP.no hS hM.1 (hj j hjj.1 hjJ).2 (Or.inl c61)) (by exact hN2)
              · refine M.aloadn (pc := 64) 0 rfl rfl dX0_partsEnough_64 ?_
                refine M.iload (pc := 65) (i := 6) rfl dX0_partsEnough_65 ?_
                refine M.iloadn (pc := 67) 3 rfl rfl dX0_partsEnough_67 ?_
                refine M.mS (pc := 68) (c_X0_isEnough_1 (n := n) (U := U) (H := H) (vt := vt) (by first | assumption | omega) (by exact hE) (by omega) (by exact hM.sub (fun d hd => (me_land hd).1)) (by exact hq) (by exact hN2)) ms_X0_114 [0, 1, 2] rfl rfl rfl rfl (Nat.le_of_ble_eq_true rfl) rfl ⟨(Nat.le_of_ble_eq_true rfl), (Nat.le_of_ble_eq_true rfl)⟩ ⟨(Nat.le_of_ble_eq_true rfl), (Nat.le_of_ble_eq_true rfl)⟩ rfl (fun _ => rfl) dX0_partsEnough_68 (fun u68 hu68 => ?_)
                obtain ⟨r68, N68⟩ := u68
                dsimp only [putL, List.set_cons_zero, List.set_cons_succ, Option.toList, List.cons_append, List.nil_append] at hu68 ⊢
                refine M.if_neP (pc := 71) (tgt := 76) dX0_partsEnough_71 (by decide) (fun c71 => ?_) (fun c71 => ?_)
                · refine M.iinc (pc := 76) (i := 4) rfl rfl dX0_partsEnough_76 ?_
                  dsimp only [List.set_cons_zero, List.set_cons_succ]
                  refine M.goto (pc := 79) (tgt := 6) dX0_partsEnough_79 (by decide) ?_
                  refine M.forget 5 ?_
                  dsimp only [List.set_cons_zero, List.set_cons_succ]
                  refine M.forget 6 ?_
                  dsimp only [List.set_cons_zero, List.set_cons_succ]
                  rw [show u * 13 + j + 1 = u * 13 + (j + 1) by omega]
                  exact ih6  (by first | assumption | omega) (by intro i h0 h1; rcases (by omega : i < j ∨ i = j) with w | w; exact hok i h0 w; rw [w]; exact ⟨c61, hu68.1.mp c71⟩) (by exact hu68.2) (by omega)
                · refine M.forget 1 ?_
                  dsimp only [List.set_cons_zero, List.set_cons_succ]
                  refine M.forget 2 ?_
                  dsimp only [List.set_cons_zero, List.set_cons_succ]
                  refine M.forget 3 ?_
                  dsimp only [List.set_cons_zero, List.set_cons_succ]
                  refine M.forget 4 ?_
                  dsimp only [List.set_cons_zero, List.set_cons_succ]
                  refine M.forget 5 ?_
                  dsimp only [List.set_cons_zero, List.set_cons_succ]
                  refine M.forget 6 ?_
                  dsimp only [List.set_cons_zero, List.set_cons_succ]
                  exact L74  (by exact OKP.no hS hM.1 (hj j hjj.1 hjJ).2 (Or.inr (fun z => c71 (hu68.1.mpr z)))) (by exact hu68.2)
            · refine M.iconst (pc := 50) dX0_partsEnough_50 ?_
              exact EI (true, N2) _ _ _ _ dX0_partsEnough_51 (Or.inr ⟨rfl, by first | exact Or.inl rfl | exact Or.inr rfl | exact pI_01 _⟩) (rfl) (rfl) (⟨⟨fun _ => OKP.of hS hM.1 hx (by rw [← hwb.2 c47]; exact hok), fun _ => rfl⟩, hN2⟩)
  rw [show u * 13 = u * 13 + 0 by omega]
  exact L6 _ (j := 0) (by first | assumption | omega) (by intro i _ h; omega) (by first | assumption | omega) (Nat.lt_succ_self _)
set_option maxHeartbeats 4000000 in
set_option maxRecDepth 100000 in
theorem c_X0_isEnough_2 {l : Launch} {G : GT} {t aL aU aP aK aN aH : Nat} {cu cp : Int} {cb : Bool} {wP : Int → Int} {wN : Int → Int} {U : Int → Int} {H : Int → Int → Int} {n : Int} {vt : Int → Prop} {S q : Int} (hn : 0 ≤ n ∧ n ≤ 6) (hE : TBE n vt H cu U wP) (hS : 0 ≤ S ∧ S < 8192) (hM : MGD n vt H S) (hq : 0 ≤ q ∧ q ≤ 2) (hN : KN n vt H wN) : Con l G yX0_isEnough cX0_isEnough 7 (some .boolean) { frames := 4, cells := 0, slots := 0, locals := 104 } [.ref t, .int (iI S), .int (iI q)] [(t, eO 0 [.ref aL, .ref aU, .ref aP, .ref aK, .ref aN, .ref aH, .int (iI cu), .int (iI cp), .int (iI (pI (cb = true)))]), (aP, eI G 1664 wP), (aN, eI G 8192 wN)] (S := Bool × (Int → Int)) (fun u => some (.int (iI (pI (u.1 = true))))) (fun u => [(t, eO 0 [.ref aL, .ref aU, .ref aP, .ref aK, .ref aN, .ref aH, .int (iI cu), .int (iI cp), .int (iI (pI (cb = true)))]), (aP, eI G 1664 wP), (aN, eI G 8192 u.2)]) (fun u => (u.1 = true ↔ NL vt H q.toNat S) ∧ KN n vt H u.2) := by
  refine Con.mk (by decide +kernel) [some (.ref t), some (.int (iI S)), some (.int (iI q)), none, none, none, none] rfl (Nat.le_of_ble_eq_true rfl) rfl ?_
  intro V M EI EL EV EA
  obtain ⟨h1a, h1b, h1c, h1d⟩ := one_ok hS
  have hkn := hN S hS hM
  have hkb := hkn.1
  have hEc := hE.1
  have hy0 : sub1 S = 0 → NL0 vt H S := fun z c d hc hd => by rw [h1c z c d hc hd]; exact fun _ _ => rfl
  have hn0 : sub1 S ≠ 0 → ¬ NL0 vt H S := fun z w => by
    obtain ⟨c, d, hc, hd, hcd⟩ := h1d z
    exact hcd (hM.2 c d hc hd (w c d hc hd))
  refine M.iloadn (pc := 0) 1 rfl rfl dX0_isEnough_0 ?_
  refine M.iloadn (pc := 1) 1 rfl rfl dX0_isEnough_1 ?_
  refine M.iconst (pc := 2) dX0_isEnough_2 ?_
  refine M.isub (pc := 3) dX0_isEnough_3 ?_
  refine M.iand (pc := 4) (h1a) dX0_isEnough_4 ?_
  refine M.if_ne (pc := 5) (tgt := 10) dX0_isEnough_5 (by decide) (by omega) (fun c5 => ?_) (fun c5 => ?_)
  · refine M.iloadn (pc := 10) 2 rfl rfl dX0_isEnough_10 ?_
    refine M.if_le (pc := 11) (tgt := 27) dX0_isEnough_11 (by decide) (by omega) (fun c11 => ?_) (fun c11 => ?_)
    · refine M.iconst (pc := 27) dX0_isEnough_27 ?_
      exact EI (false, wN) _ _ _ _ dX0_isEnough_28 (Or.inr ⟨rfl, by first | exact Or.inl rfl | exact Or.inr rfl | exact pI_01 _⟩) (rfl) (rfl) (⟨⟨fun z => absurd (show false = true from z) (by decide), fun z => absurd (show NL vt H 0 S by rw [show q.toNat = 0 by omega] at z; exact z) (hn0 c5)⟩, hN⟩)
    · refine M.iloadn (pc := 14) 1 rfl rfl dX0_isEnough_14 ?_
      refine M.if_lt (pc := 15) (tgt := 27) dX0_isEnough_15 (by decide) (by omega) (fun c15 => ?_) (fun c15 => ?_)
      · exact absurd c15 (by omega)
      · refine M.iloadn (pc := 18) 1 rfl rfl dX0_isEnough_18 ?_
        refine M.aloadn (pc := 19) 0 rfl rfl dX0_isEnough_19 ?_
        refine M.getf (pc := 20) fg_X0_25 0 rfl rfl dX0_isEnough_20 ?_
        refine M.alenI (pc := 23) 2 rfl dX0_isEnough_23 ?_
        refine M.icmp_lt (pc := 24) (tgt := 29) dX0_isEnough_24 (by decide) (by omega) (by omega) (fun c24 => ?_) (fun c24 => ?_)
        · refine M.aloadn (pc := 29) 0 rfl rfl dX0_isEnough_29 ?_
          refine M.getf (pc := 30) fg_X0_25 0 rfl rfl dX0_isEnough_30 ?_
          refine M.iloadn (pc := 33) 1 rfl rfl dX0_isEnough_33 ?_
          refine M.iald (pc := 34) 2 rfl (by omega) (by omega) dX0_isEnough_34 ?_
          refine M.bipush (pc := 35) (by decide +kernel) dX0_isEnough_35 ?_
          refine M.iand (pc := 37) (and15 (by omega)) dX0_isEnough_37 ?_
          refine M.istoren (pc := 38) 3 rfl (Nat.le_of_ble_eq_true rfl) rfl dX0_isEnough_38 ?_
          dsimp only [List.set_cons_zero, List.set_cons_succ]
          refine M.aloadn (pc := 39) 0 rfl rfl dX0_isEnough_39 ?_
          refine M.getf (pc := 40) fg_X0_25 0 rfl rfl dX0_isEnough_40 ?_
          refine M.iloadn (pc := 43) 1 rfl rfl dX0_isEnough_43 ?_
          refine M.iald (pc := 44) 2 rfl (by omega) (by omega) dX0_isEnough_44 ?_
          refine M.iconst (pc := 45) dX0_isEnough_45 ?_
          refine M.ishr (pc := 46) (shr4 (by omega) (by omega)) dX0_isEnough_46 ?_
          refine M.istore (pc := 47) (i := 4) (Nat.le_of_ble_eq_true rfl) rfl dX0_isEnough_47 ?_
          dsimp only [List.set_cons_zero, List.set_cons_succ]
          have L75 : ∀ {r : Bool}, (r = true ↔ NL vt H q.toNat S) → V 0 0 75 [(t, eO 0 [.ref aL, .ref aU, .ref aP, .ref aK, .ref aN, .ref aH, .int (iI cu), .int (iI cp), .int (iI (pI (cb = true)))]), (aP, eI G 1664 wP), (aN, eI G 8192 wN)] [some (.ref t), none, none, none, none, none, none] [.int (iI (pI (r = true)))] := by
            intro r hr
            exact EI (r, wN) _ _ _ _ dX0_isEnough_75 (Or.inr ⟨rfl, by first | exact Or.inl rfl | exact Or.inr rfl | exact pI_01 _⟩) (rfl) (rfl) (⟨hr, hN⟩)
          refine M.iloadn (pc := 49) 2 rfl rfl dX0_isEnough_49 ?_
          refine M.iloadn (pc := 50) 3 rfl rfl dX0_isEnough_50 ?_
          refine M.icmp_le (pc := 51) (tgt := 65) dX0_isEnough_51 (by decide) (by omega) (by omega) (fun c51 => ?_) (fun c51 => ?_)
          · refine M.iloadn (pc := 65) 2 rfl rfl dX0_isEnough_65 ?_
            refine M.iloadn (pc := 66) 3 rfl rfl dX0_isEnough_66 ?_
            refine M.icmp_le (pc := 67) (tgt := 74) dX0_isEnough_67 (by decide) (by omega) (by omega) (fun c67 => ?_) (fun c67 => ?_)
            · refine M.iconst (pc := 74) dX0_isEnough_74 ?_
              refine M.forget 1 ?_
              dsimp only [List.set_cons_zero, List.set_cons_succ]
              refine M.forget 2 ?_
              dsimp only [List.set_cons_zero, List.set_cons_succ]
              refine M.forget 3 ?_
              dsimp only [List.set_cons_zero, List.set_cons_succ]
              refine M.forget 4 ?_
              dsimp only [List.set_cons_zero, List.set_cons_succ]
              exact L75 (r := false) (by exact ⟨fun z => absurd z (by decide), fun z => absurd (NL.up (by omega) z) (hkn.2.1 (by omega))⟩)
            · refine M.iconst (pc := 70) dX0_isEnough_70 ?_
              refine M.goto (pc := 71) (tgt := 75) dX0_isEnough_71 (by decide) ?_
              refine M.forget 1 ?_
              dsimp only [List.set_cons_zero, List.set_cons_succ]
              refine M.forget 2 ?_
              dsimp only [List.set_cons_zero, List.set_cons_succ]
              refine M.forget 3 ?_
              dsimp only [List.set_cons_zero, List.set_cons_succ]
              refine M.forget 4 ?_
              dsimp only [List.set_cons_zero, List.set_cons_succ]
              exact L75 (r := true) (by exact ⟨fun _ => (by first | exact absurd c51 (by omega) | exact (hkn.2.2 c56).up (by omega)), fun _ => rfl⟩)
          · refine M.iload (pc := 54) (i := 4) rfl dX0_isEnough_54 ?_
            refine M.if_eq (pc := 56) (tgt := 76) dX0_isEnough_56 (by decide) (by omega) (fun c56 => ?_) (fun c56 => ?_)
            · refine M.iconst (pc := 76) dX0_isEnough_76 ?_
              refine M.istore (pc := 77) (i := 5) (Nat.le_of_ble_eq_true rfl) rfl dX0_isEnough_77 ?_
              dsimp only [List.set_cons_zero, List.set_cons_succ]
              refine M.iconst (pc := 79) dX0_isEnough_79 ?_
              refine M.istore (pc := 80) (i := 6) (Nat.le_of_ble_eq_true rfl) rfl dX0_isEnough_80 ?_
              dsimp only [List.set_cons_zero, List.set_cons_succ]
              have L82 : ∀ (fu : Nat) {f : Bool} {u : Int} {N2 : Int → Int}, (0 ≤ u ∧ u ≤ cu) → ((f = true → NL vt H q.toNat S) ∧ (f = false → ∀ v, 0 ≤ v → v < u → ¬ OKP vt H (U v) S (q - 1).toNat)) → (KN n vt H N2) → (cu - u).toNat < fu → V 0 0 82 [(t, eO 0 [.ref aL, .ref aU, .ref aP, .ref aK, .ref aN, .ref aH, .int (iI cu), .int (iI cp), .int (iI (pI (cb = true)))]), (aP, eI G 1664 wP), (aN, eI G 8192 N2)] [some (.ref t), some (.int (iI S)), some (.int (iI q)), some (.int (iI (wN S % 16))), some (.int (iI (wN S / 16))), some (.int (iI (pI (f = true)))), some (.int (iI u))] [] := by
                intro fu
                induction fu with
                | zero => intro f u N2 hu hf hN2 hm; exact absurd hm (Nat.not_lt_zero _)
                | succ fu ih82 =>
                  intro f u N2 hu hf hN2 hm82
                  refine M.iload (pc := 82) (i := 5) rfl dX0_isEnough_82 ?_
                  have L114 : (f = true ↔ NL vt H q.toNat S) → V 0 0 114 [(t, eO 0 [.ref aL, .ref aU, .ref aP, .ref aK, .ref aN, .ref aH, .int (iI cu), .int (iI cp), .int (iI (pI (cb = true)))]), (aP, eI G 1664 wP), (aN, eI G 8192 N2)] [some (.ref t), some (.int (iI S)), some (.int (iI q)), some (.int (iI (wN S % 16))), some (.int (iI (wN S / 16))), some (.int (iI (pI (f = true)))), some (.int (iI u))] [] := by
                    intro  hfin
                    refine M.aloadn (pc := 114) 0 rfl rfl dX0_isEnough_114 ?_
                    refine M.getf (pc := 115) fg_X0_25 0 rfl rfl dX0_isEnough_115 ?_
                    have L138 : ∀ {val : Int}, (KN n vt H (upZ N2 S val)) → V 0 0 138 [(t, eO 0 [.ref aL, .ref aU, .ref aP, .ref aK, .ref aN, .ref aH, .int (iI cu), .int (iI cp), .int (iI (pI (cb = true)))]), (aP, eI G 1664 wP), (aN, eI G 8192 N2)] [some (.ref t), some (.int (iI S)), some (.int (iI q)), some (.int (iI (wN S % 16))), some (.int (iI (wN S / 16))), some (.int (iI (pI (f = true)))), some (.int (iI u))] [.int (iI val), .int (iI S), .ref aN] := by
                      intro val hval
                      refine M.iast (pc := 138) 2 rfl (by omega) (by omega) dX0_isEnough_138 ?_
                      dsimp only [List.set_cons_zero, List.set_cons_succ]
                      refine M.iload (pc := 139) (i := 5) rfl dX0_isEnough_139 ?_
                      exact EI (f, upZ N2 S val) _ _ _ _ dX0_isEnough_141 (Or.inr ⟨rfl, by first | exact Or.inl rfl | exact Or.inr rfl | exact pI_01 _⟩) (rfl) (rfl) (⟨hfin, hval⟩)
                    refine M.iloadn (pc := 118) 1 rfl rfl dX0_isEnough_118 ?_
                    refine M.iload (pc := 119) (i := 5) rfl dX0_isEnough_119 ?_
                    refine M.if_eqP (pc := 121) (tgt := 132) dX0_isEnough_121 (by decide) (fun c121 => ?_) (fun c121 => ?_)
                    · refine M.iloadn (pc := 132) 2 rfl rfl dX0_isEnough_132 ?_
                      refine M.iload (pc := 133) (i := 4) rfl dX0_isEnough_133 ?_
                      refine M.iconst (pc := 135) dX0_isEnough_135 ?_
                      refine M.ishl (pc := 136) (sh4 (by omega)) dX0_isEnough_136 ?_
                      refine M.ior (pc := 137) (or4 (by omega) (by omega)) dX0_isEnough_137 ?_
                      have e1 : (q + wN S / 16 * 16) % 16 = q := by omega
                      have e2 : (q + wN S / 16 * 16) / 16 = wN S / 16 := by omega
                      exact L138  (by exact hN2.up (by rw [e1, e2]; omega) (by rw [e1]; exact fun _ z => c121 (hfin.mpr z)) (by rw [e2]; exact hkn.2.2))
                    · refine M.iloadn (pc := 124) 3 rfl rfl dX0_isEnough_124 ?_
                      refine M.iloadn (pc := 125) 2 rfl rfl dX0_isEnough_125 ?_
                      refine M.iconst (pc := 126) dX0_isEnough_126 ?_
                      refine M.ishl (pc := 127) (sh4 (by omega)) dX0_isEnough_127 ?_
                      refine M.ior (pc := 128) (or4 (by omega) (by omega)) dX0_isEnough_128 ?_
                      refine M.goto (pc := 129) (tgt := 138) dX0_isEnough_129 (by decide) ?_
                      have e1 : (wN S % 16 + q * 16) % 16 = wN S % 16 := by omega
                      have e2 : (wN S % 16 + q * 16) / 16 = q := by omega
                      exact L138  (by exact hN2.up (by rw [e1, e2]; omega) (by rw [e1]; exact hkn.2.1) (by rw [e2]; exact fun _ => hfin.mp c121))
                  refine M.if_neP (pc := 84) (tgt := 114) dX0_isEnough_84 (by decide) (fun c84 => ?_) (fun c84 => ?_)
                  · exact L114  (by exact ⟨fun _ => hf.1 c84, fun _ => c84⟩)
                  · refine M.iload (pc := 87) (i := 6) rfl dX0_isEnough_87 ?_
                    refine M.aloadn (pc := 89) 0 rfl rfl dX0_isEnough_89 ?_
                    refine M.getf (pc := 90) fg_X0_43 0 rfl rfl dX0_isEnough_90 ?_
                    refine M.icmp_ge (pc := 93) (tgt := 114) dX0_isEnough_93 (by decide) (by omega) (by omega) (fun c93 => ?_) (fun c93 => ?_)
                    · exact L114  (by exact ⟨fun z => absurd z c84, fun z => absurd (NL.okp (by omega) (hn0 c5) z) (fun ⟨s, h1, h2⟩ => (hE.cov hn hM.1 h1 h2).elim (fun v hv => hf.2 (Bool.eq_false_iff.mpr c84) v hv.1.1 (by omega) hv.2.2))⟩)
                    · refine M.aloadn (pc := 96) 0 rfl rfl dX0_isEnough_96 ?_
                      refine M.iload (pc := 97) (i := 6) rfl dX0_isEnough_97 ?_
                      refine M.iloadn (pc := 99) 1 rfl rfl dX0_isEnough_99 ?_
                      refine M.iloadn (pc := 100) 2 rfl rfl dX0_isEnough_100 ?_
                      refine M.iconst (pc := 101) dX0_isEnough_101 ?_
                      refine M.isub (pc := 102) dX0_isEnough_102 ?_
                      refine M.mS (pc := 103) (c_X0_partsEnough_1 (n := n) (U := U) (H := H) (vt := vt) (by first | assumption | omega) (by exact hE) (by exact hS) (by exact hM) (by omega) (by exact hN2) (by omega)) ms_X0_118 [0, 1, 2] rfl rfl rfl rfl (Nat.le_of_ble_eq_true rfl) rfl ⟨(Nat.le_of_ble_eq_true rfl), (Nat.le_of_ble_eq_true rfl)⟩ ⟨(Nat.le_of_ble_eq_true rfl), (Nat.le_of_ble_eq_true rfl)⟩ rfl (fun _ => rfl) dX0_isEnough_103 (fun u103 hu103 => ?_)
                      obtain ⟨r103, N103⟩ := u103
                      dsimp only [putL, List.set_cons_zero, List.set_cons_succ, Option.toList, List.cons_append, List.nil_append] at hu103 ⊢
                      refine M.istore (pc := 106) (i := 5) (Nat.le_of_ble_eq_true rfl) rfl dX0_isEnough_106 ?_
                      dsimp only [List.set_cons_zero, List.set_cons_succ]
                      refine M.iinc (pc := 108) (i := 6) rfl rfl dX0_isEnough_108 ?_
                      dsimp only [List.set_cons_zero, List.set_cons_succ]
                      refine M.goto (pc := 111) (tgt := 82) dX0_isEnough_111 (by decide) ?_
                      exact ih82  (by first | assumption | omega) (by exact ⟨fun z => OKP.nl (by omega) (hE.2.1 u hu.1 (by omega)).1 (hu103.1.mp z), fun z v h0 h1 => (by omega : v < u ∨ v = u).elim (fun w => hf.2 (Bool.eq_false_iff.mpr c84) v h0 w) (fun w y => absurd (hu103.1.mpr (by rw [← w]; exact y)) (by show ¬ r103 = true; rw [show r103 = false from z]; decide))⟩) (by exact hu103.2) (by omega)
              exact L82 _ (f := false) (by first | assumption | omega) (by exact ⟨fun z => absurd z (by decide), fun _ v _ h => by omega⟩) (by first | assumption | omega) (Nat.lt_succ_self _)
            · refine M.iloadn (pc := 59) 2 rfl rfl dX0_isEnough_59 ?_
              refine M.iload (pc := 60) (i := 4) rfl dX0_isEnough_60 ?_
              refine M.icmp_lt (pc := 62) (tgt := 76) dX0_isEnough_62 (by decide) (by omega) (by omega) (fun c62 => ?_) (fun c62 => ?_)
              · refine M.iconst (pc := 76) dX0_isEnough_76 ?_
                refine M.istore (pc := 77) (i := 5) (Nat.le_of_ble_eq_true rfl) rfl dX0_isEnough_77 ?_
                dsimp only [List.set_cons_zero, List.set_cons_succ]
                refine M.iconst (pc := 79) dX0_isEnough_79 ?_
                refine M.istore (pc := 80) (i := 6) (Nat.le_of_ble_eq_true rfl) rfl dX0_isEnough_80 ?_
                dsimp only [List.set_cons_zero, List.set_cons_succ]
                have L82 : ∀ (fu : Nat) {f : Bool} {u : Int} {N2 : Int → Int}, (0 ≤ u ∧ u ≤ cu) → ((f = true → NL vt H q.toNat S) ∧ (f = false → ∀ v, 0 ≤ v → v < u → ¬ OKP vt H (U v) S (q - 1).toNat)) → (KN n vt H N2) → (cu - u).toNat < fu → V 0 0 82 [(t, eO 0 [.ref aL, .ref aU, .ref aP, .ref aK, .ref aN, .ref aH, .int (iI cu), .int (iI cp), .int (iI (pI (cb = true)))]), (aP, eI G 1664 wP), (aN, eI G 8192 N2)] [some (.ref t), some (.int (iI S)), some (.int (iI q)), some (.int (iI (wN S % 16))), some (.int (iI (wN S / 16))), some (.int (iI (pI (f = true)))), some (.int (iI u))] [] := by
                  intro fu
                  induction fu with
                  | zero => intro f u N2 hu hf hN2 hm; exact absurd hm (Nat.not_lt_zero _)
                  | succ fu ih82 =>
                    intro f u N2 hu hf hN2 hm82
                    refine M.iload (pc := 82) (i := 5) rfl dX0_isEnough_82 ?_
                    have L114 : (f = true ↔ NL vt H q.toNat S) → V 0 0 114 [(t, eO 0 [.ref aL, .ref aU, .ref aP, .ref aK, .ref aN, .ref aH, .int (iI cu), .int (iI cp), .int (iI (pI (cb = true)))]), (aP, eI G 1664 wP), (aN, eI G 8192 N2)] [some (.ref t), some (.int (iI S)), some (.int (iI q)), some (.int (iI (wN S % 16))), some (.int (iI (wN S / 16))), some (.int (iI (pI (f = true)))), some (.int (iI u))] [] := by
                      intro  hfin
                      refine M.aloadn (pc := 114) 0 rfl rfl dX0_isEnough_114 ?_
                      refine M.getf (pc := 115) fg_X0_25 0 rfl rfl dX0_isEnough_115 ?_
                      have L138 : ∀ {val : Int}, (KN n vt H (upZ N2 S val)) → V 0 0 138 [(t, eO 0 [.ref aL, .ref aU, .ref aP, .ref aK, .ref aN, .ref aH, .int (iI cu), .int (iI cp), .int (iI (pI (cb = true)))]), (aP, eI G 1664 wP), (aN, eI G 8192 N2)] [some (.ref t), some (.int (iI S)), some (.int (iI q)), some (.int (iI (wN S % 16))), some (.int (iI (wN S / 16))), some (.int (iI (pI (f = true)))), some (.int (iI u))] [.int (iI val), .int (iI S), .ref aN] := by
                        intro val hval
                        refine M.iast (pc := 138) 2 rfl (by omega) (by omega) dX0_isEnough_138 ?_
                        dsimp only [List.set_cons_zero, List.set_cons_succ]
                        refine M.iload (pc := 139) (i := 5) rfl dX0_isEnough_139 ?_
                        exact EI (f, upZ N2 S val) _ _ _ _ dX0_isEnough_141 (Or.inr ⟨rfl, by first | exact Or.inl rfl | exact Or.inr rfl | exact pI_01 _⟩) (rfl) (rfl) (⟨hfin, hval⟩)
                      refine M.iloadn (pc := 118) 1 rfl rfl dX0_isEnough_118 ?_
                      refine M.iload (pc := 119) (i := 5) rfl dX0_isEnough_119 ?_
                      refine M.if_eqP (pc := 121) (tgt := 132) dX0_isEnough_121 (by decide) (fun c121 => ?_) (fun c121 => ?_)
                      · refine M.iloadn (pc := 132) 2 rfl rfl dX0_isEnough_132 ?_
                        refine M.iload (pc := 133) (i := 4) rfl dX0_isEnough_133 ?_
                        refine M.iconst (pc := 135) dX0_isEnough_135 ?_
                        refine M.ishl (pc := 136) (sh4 (by omega)) dX0_isEnough_136 ?_
                        refine M.ior (pc := 137) (or4 (by omega) (by omega)) dX0_isEnough_137 ?_
                        have e1 : (q + wN S / 16 * 16) % 16 = q := by omega
                        have e2 : (q + wN S / 16 * 16) / 16 = wN S / 16 := by omega
                        exact L138  (by exact hN2.up (by rw [e1, e2]; omega) (by rw [e1]; exact fun _ z => c121 (hfin.mpr z)) (by rw [e2]; exact hkn.2.2))
                      · refine M.iloadn (pc := 124) 3 rfl rfl dX0_isEnough_124 ?_
                        refine M.iloadn (pc := 125) 2 rfl rfl dX0_isEnough_125 ?_
                        refine M.iconst (pc := 126) dX0_isEnough_126 ?_
                        refine M.ishl (pc := 127) (sh4 (by omega)) dX0_isEnough_127 ?_
                        refine M.ior (pc := 128) (or4 (by omega) (by omega)) dX0_isEnough_128 ?_
                        refine M.goto (pc := 129) (tgt := 138) dX0_isEnough_129 (by decide) ?_
                        have e1 : (wN S % 16 + q * 16) % 16 = wN S % 16 := by omega
                        have e2 : (wN S % 16 + q * 16) / 16 = q := by omega
                        exact L138  (by exact hN2.up (by rw [e1, e2]; omega) (by rw [e1]; exact hkn.2.1) (by rw [e2]; exact fun _ => hfin.mp c121))
                    refine M.if_neP (pc := 84) (tgt := 114) dX0_isEnough_84 (by decide) (fun c84 => ?_) (fun c84 => ?_)
                    · exact L114  (by exact ⟨fun _ => hf.1 c84, fun _ => c84⟩)
                    · refine M.iload (pc := 87) (i := 6) rfl dX0_isEnough_87 ?_
                      refine M.aloadn (pc := 89) 0 rfl rfl dX0_isEnough_89 ?_
                      refine M.getf (pc := 90) fg_X0_43 0 rfl rfl dX0_isEnough_90 ?_
                      refine M.icmp_ge (pc := 93) (tgt := 114) dX0_isEnough_93 (by decide) (by omega) (by omega) (fun c93 => ?_) (fun c93 => ?_)
                      · exact L114  (by exact ⟨fun z => absurd z c84, fun z => absurd (NL.okp (by omega) (hn0 c5) z) (fun ⟨s, h1, h2⟩ => (hE.cov hn hM.1 h1 h2).elim (fun v hv => hf.2 (Bool.eq_false_iff.mpr c84) v hv.1.1 (by omega) hv.2.2))⟩)
                      · refine M.aloadn (pc := 96) 0 rfl rfl dX0_isEnough_96 ?_
                        refine M.iload (pc := 97) (i := 6) rfl dX0_isEnough_97 ?_
                        refine M.iloadn (pc := 99) 1 rfl rfl dX0_isEnough_99 ?_
                        refine M.iloadn (pc := 100) 2 rfl rfl dX0_isEnough_100 ?_
                        refine M.iconst (pc := 101) dX0_isEnough_101 ?_
                        refine M.isub (pc := 102) dX0_isEnough_102 ?_
                        refine M.mS (pc := 103) (c_X0_partsEnough_1 (n := n) (U := U) (H := H) (vt := vt) (by first | assumption | omega) (by exact hE) (by exact hS) (by exact hM) (by omega) (by exact hN2) (by omega)) ms_X0_118 [0, 1, 2] rfl rfl rfl rfl (Nat.le_of_ble_eq_true rfl) rfl ⟨(Nat.le_of_ble_eq_true rfl), (Nat.le_of_ble_eq_true rfl)⟩ ⟨(Nat.le_of_ble_eq_true rfl), (Nat.le_of_ble_eq_true rfl)⟩ rfl (fun _ => rfl) dX0_isEnough_103 (fun u103 hu103 => ?_)
                        obtain ⟨r103, N103⟩ := u103
                        dsimp only [putL, List.set_cons_zero, List.set_cons_succ, Option.toList, List.cons_append, List.nil_append] at hu103 ⊢
                        refine M.istore (pc := 106) (i := 5) (Nat.le_of_ble_eq_true rfl) rfl dX0_isEnough_106 ?_
                        dsimp only [List.set_cons_zero, List.set_cons_succ]
                        refine M.iinc (pc := 108) (i := 6) rfl rfl dX0_isEnough_108 ?_
                        dsimp only [List.set_cons_zero, List.set_cons_succ]
                        refine M.goto (pc := 111) (tgt := 82) dX0_isEnough_111 (by decide) ?_
                        exact ih82  (by first | assumption | omega) (by exact ⟨fun z => OKP.nl (by omega) (hE.2.1 u hu.1 (by omega)).1 (hu103.1.mp z), fun z v h0 h1 => (by omega : v < u ∨ v = u).elim (fun w => hf.2 (Bool.eq_false_iff.mpr c84) v h0 w) (fun w y => absurd (hu103.1.mpr (by rw [← w]; exact y)) (by show ¬ r103 = true; rw [show r103 = false from z]; decide))⟩) (by exact hu103.2) (by omega)
                exact L82 _ (f := false) (by first | assumption | omega) (by exact ⟨fun z => absurd z (by decide), fun _ v _ h => by omega⟩) (by first | assumption | omega) (Nat.lt_succ_self _)
              · refine M.iloadn (pc := 65) 2 rfl rfl dX0_isEnough_65 ?_
                refine M.iloadn (pc := 66) 3 rfl rfl dX0_isEnough_66 ?_
                refine M.icmp_le (pc := 67) (tgt := 74) dX0_isEnough_67 (by decide) (by omega) (by omega) (fun c67 => ?_) (fun c67 => ?_)
                · refine M.iconst (pc := 74) dX0_isEnough_74 ?_
                  refine M.forget 1 ?_
                  dsimp only [List.set_cons_zero, List.set_cons_succ]
                  refine M.forget 2 ?_
                  dsimp only [List.set_cons_zero, List.set_cons_succ]
                  refine M.forget 3 ?_
                  dsimp only [List.set_cons_zero, List.set_cons_succ]
                  refine M.forget 4 ?_
                  dsimp only [List.set_cons_zero, List.set_cons_succ]
                  exact L75 (r := false) (by exact ⟨fun z => absurd z (by decide), fun z => absurd (NL.up (by omega) z) (hkn.2.1 (by omega))⟩)
                · refine M.iconst (pc := 70) dX0_isEnough_70 ?_
                  refine M.goto (pc := 71) (tgt := 75) dX0_isEnough_71 (by decide) ?_
                  refine M.forget 1 ?_
                  dsimp only [List.set_cons_zero, List.set_cons_succ]
                  refine M.forget 2 ?_
                  dsimp only [List.set_cons_zero, List.set_cons_succ]
                  refine M.forget 3 ?_
                  dsimp only [List.set_cons_zero, List.set_cons_succ]
                  refine M.forget 4 ?_
                  dsimp only [List.set_cons_zero, List.set_cons_succ]
                  exact L75 (r := true) (by exact ⟨fun _ => (by first | exact absurd c51 (by omega) | exact (hkn.2.2 c56).up (by omega)), fun _ => rfl⟩)
        · exact absurd c24 (by omega)
  · refine M.iconst (pc := 8) dX0_isEnough_8 ?_
    exact EI (true, wN) _ _ _ _ dX0_isEnough_9 (Or.inr ⟨rfl, by first | exact Or.inl rfl | exact Or.inr rfl | exact pI_01 _⟩) (rfl) (rfl) (⟨⟨fun _ => NL.up (Nat.zero_le _) (show NL vt H 0 S from hy0 c5), fun _ => rfl⟩, hN⟩)
set_option maxHeartbeats 4000000 in
set_option maxRecDepth 100000 in
theorem c_X0_partsEnough_2 {l : Launch} {G : GT} {t aL aU aP aK aN aH : Nat} {cu cp : Int} {cb : Bool} {wP : Int → Int} {wN : Int → Int} {U : Int → Int} {H : Int → Int → Int} {n : Int} {vt : Int → Prop} {u S q : Int} (hn : 0 ≤ n ∧ n ≤ 6) (hE : TBE n vt H cu U wP) (hS : 0 ≤ S ∧ S < 8192) (hM : MGD n vt H S) (hq : 0 ≤ q ∧ q ≤ 2) (hN : KN n vt H wN) (hu : 0 ≤ u ∧ u < cu) : Con l G yX0_partsEnough cX0_partsEnough 7 (some .boolean) { frames := 5, cells := 0, slots := 0, locals := 130 } [.ref t, .int (iI u), .int (iI S), .int (iI q)] [(t, eO 0 [.ref aL, .ref aU, .ref aP, .ref aK, .ref aN, .ref aH, .int (iI cu), .int (iI cp), .int (iI (pI (cb = true)))]), (aP, eI G 1664 wP), (aN, eI G 8192 wN)] (S := Bool × (Int → Int)) (fun u => some (.int (iI (pI (u.1 = true))))) (fun u => [(t, eO 0 [.ref aL, .ref aU, .ref aP, .ref aK, .ref aN, .ref aH, .int (iI cu), .int (iI cp), .int (iI (pI (cb = true)))]), (aP, eI G 1664 wP), (aN, eI G 8192 u.2)]) (fun x => (x.1 = true ↔ OKP vt H (U u) S q.toNat) ∧ KN n vt H x.2) := by
  refine Con.mk (by decide +kernel) [some (.ref t), some (.int (iI u)), some (.int (iI S)), some (.int (iI q)), none, none, none] rfl (Nat.le_of_ble_eq_true rfl) rfl ?_
  intro V M EI EL EV EA
  have hEc := hE.1
  obtain ⟨hvt, J, hJ, hj, hz, hx⟩ := hE.2.1 u hu.1 hu.2
  refine M.iloadn (pc := 0) 1 rfl rfl dX0_partsEnough_0 ?_
  refine M.bipush (pc := 1) (by decide +kernel) dX0_partsEnough_1 ?_
  refine M.imul (pc := 3) dX0_partsEnough_3 ?_
  refine M.istore (pc := 4) (i := 4) (Nat.le_of_ble_eq_true rfl) rfl dX0_partsEnough_4 ?_
  dsimp only [List.set_cons_zero, List.set_cons_succ]
  have L6 : ∀ (fu : Nat) {j : Int} {N2 : Int → Int}, (0 ≤ j ∧ j ≤ J) → (∀ i, 0 ≤ i → i < j → land S (wP (u * 13 + i)) ≠ S ∧ NL vt H q.toNat (land S (wP (u * 13 + i)))) → (KN n vt H N2) → (13 - j).toNat < fu → V 0 0 6 [(t, eO 0 [.ref aL, .ref aU, .ref aP, .ref aK, .ref aN, .ref aH, .int (iI cu), .int (iI cp), .int (iI (pI (cb = true)))]), (aP, eI G 1664 wP), (aN, eI G 8192 N2)] [some (.ref t), some (.int (iI u)), some (.int (iI S)), some (.int (iI q)), some (.int (iI (u * 13 + j))), none, none] [] := by
    intro fu
    induction fu with
    | zero => intro j N2 hjj hok hN2 hm; exact absurd hm (Nat.not_lt_zero _)
    | succ fu ih6 =>
      intro j N2 hjj hok hN2 hm6
      refine M.iload (pc := 6) (i := 4) rfl dX0_partsEnough_6 ?_
      refine M.iloadn (pc := 8) 1 rfl rfl dX0_partsEnough_8 ?_
      refine M.iconst (pc := 9) dX0_partsEnough_9 ?_
      refine M.iadd (pc := 10) dX0_partsEnough_10 ?_
      refine M.bipush (pc := 11) (by decide +kernel) dX0_partsEnough_11 ?_
      refine M.imul (pc := 13) dX0_partsEnough_13 ?_
      refine M.icmp_ge (pc := 14) (tgt := 82) dX0_partsEnough_14 (by decide) (by omega) (by omega) (fun c14 => ?_) (fun c14 => ?_)
      · refine M.iconst (pc := 82) dX0_partsEnough_82 ?_
        exact EI (true, N2) _ _ _ _ dX0_partsEnough_83 (Or.inr ⟨rfl, by first | exact Or.inl rfl | exact Or.inr rfl | exact pI_01 _⟩) (rfl) (rfl) (⟨⟨fun _ => OKP.of hS hM.1 hx (by rw [show J = j by omega]; exact hok), fun _ => rfl⟩, hN2⟩)
      · refine M.iload (pc := 17) (i := 4) rfl dX0_partsEnough_17 ?_
        refine M.if_lt (pc := 19) (tgt := 42) dX0_partsEnough_19 (by decide) (by omega) (fun c19 => ?_) (fun c19 => ?_)
        · exact absurd c19 (by omega)
        · refine M.iload (pc := 22) (i := 4) rfl dX0_partsEnough_22 ?_
          refine M.aloadn (pc := 24) 0 rfl rfl dX0_partsEnough_24 ?_
          refine M.getf (pc := 25) fg_X0_19 0 rfl rfl dX0_partsEnough_25 ?_
          refine M.alenI (pc := 28) 1 rfl dX0_partsEnough_28 ?_
          refine M.icmp_ge (pc := 29) (tgt := 42) dX0_partsEnough_29 (by decide) (by omega) (by omega) (fun c29 => ?_) (fun c29 => ?_)
          · exact absurd c29 (by omega)
          · refine M.aloadn (pc := 32) 0 rfl rfl dX0_partsEnough_32 ?_
            refine M.getf (pc := 33) fg_X0_19 0 rfl rfl dX0_partsEnough_33 ?_
            refine M.iload (pc := 36) (i := 4) rfl dX0_partsEnough_36 ?_
            refine M.iald (pc := 38) 1 rfl (by omega) (by omega) dX0_partsEnough_38 ?_
            refine M.goto (pc := 39) (tgt := 43) dX0_partsEnough_39 (by decide) ?_
            refine M.istore (pc := 43) (i := 5) (Nat.le_of_ble_eq_true rfl) rfl dX0_partsEnough_43 ?_
            dsimp only [List.set_cons_zero, List.set_cons_succ]
            have hwb : (0 ≤ wP (u * 13 + j) ∧ wP (u * 13 + j) < 8192) ∧ (wP (u * 13 + j) = 0 → j = J) := by
              rcases (by omega : j < J ∨ j = J) with w | w
              · obtain ⟨h1, x, h2, h3⟩ := hj j hjj.1 w
                have h4 : 0 ≤ PT H (U u) (cm (prB n) 13) x ∧ PT H (U u) (cm (prB n) 13) x < 8192 := cm_13b _
                exact ⟨by rw [h3]; exact h4, fun z => absurd z h1⟩
              · have h5 := hz (by omega)
                rw [w, h5]
                exact ⟨by omega, fun _ => rfl⟩
            refine M.iload (pc := 45) (i := 5) rfl dX0_partsEnough_45 ?_
            refine M.if_ne (pc := 47) (tgt := 52) dX0_partsEnough_47 (by decide) (by omega) (fun c47 => ?_) (fun c47 => ?_)
            · have hjJ : j < J := by
                rcases (by omega : j < J ∨ j = J) with w | w
                · exact w
                · exact absurd (by rw [w]; exact hz (by omega)) c47
              have hll := land_b (a := S) (b := wP (u * 13 + j)) hS.1 hwb.1.1
              refine M.iloadn (pc := 52) 2 rfl rfl dX0_partsEnough_52 ?_
              refine M.iload (pc := 53) (i := 5) rfl dX0_partsEnough_53 ?_
              refine M.iand (pc := 55) (land_ok hS.1 hwb.1.1) dX0_partsEnough_55 ?_
              have L74 : ∀ {N3 : Int → Int}, (¬ OKP vt H (U u) S q.toNat) → (KN n vt H N3) → V 0 0 74 [(t, eO 0 [.ref aL, .ref aU, .ref aP, .ref aK, .ref aN, .ref aH, .int (iI cu), .int (iI cp), .int (iI (pI (cb = true)))]), (aP, eI G 1664 wP), (aN, eI G 8192 N3)] [some (.ref t), none, none, none, none, none, none] [] := by
                intro N3 hno hN3
                refine M.iconst (pc := 74) dX0_partsEnough_74 ?_
                exact EI (false, N3) _ _ _ _ dX0_partsEnough_75 (Or.inr ⟨rfl, by first | exact Or.inl rfl | exact Or.inr rfl | exact pI_01 _⟩) (rfl) (rfl) (⟨⟨fun z => absurd (show false = true from z) (by decide), fun z => absurd z hno⟩, hN3⟩)
              refine M.istore (pc := 56) (i := 6) (Nat.le_of_ble_eq_true rfl) rfl dX0_partsEnough_56 ?_
              dsimp only [List.set_cons_zero, List.set_cons_succ]
              refine M.iload (pc := 58) (i := 6) rfl dX0_partsEnough_58 ?_
              refine M.iloadn (pc := 60) 2 rfl rfl dX0_partsEnough_60 ?_
              refine M.icmp_eq (pc := 61) (tgt := 74) dX0_partsEnough_61 (by decide) (by omega) (by omega) (fun c61 => ?_) (fun c61 => ?_)
              · refine M.forget 1 ?_
                dsimp only [List.set_cons_zero, List.set_cons_succ]
                refine M.forget 2 ?_
                dsimp only [List.set_cons_zero, List.set_cons_succ]
                refine M.forget 3 ?_
                dsimp only [List.set_cons_zero, List.set_cons_succ]
                refine M.forget 4 ?_
                dsimp only [List.set_cons_zero, List.set_cons_succ]
                refine M.forget 5 ?_
                dsimp only [List.set_cons_zero, List.set_cons_succ]
                refine M.forget 6 ?_
                dsimp only [List.set_cons_zero, List.set_cons_succ]
                exact L74  (by exact OKP.no hS hM.1 (hj j hjj.1 hjJ).2 (Or.inl c61)) (by exact hN2)
              · refine M.aloadn (pc := 64) 0 rfl rfl dX0_partsEnough_64 ?_
                refine M.iload (pc := 65) (i := 6) rfl dX0_partsEnough_65 ?_
                refine M.iloadn (pc := 67) 3 rfl rfl dX0_partsEnough_67 ?_
                refine M.mS (pc := 68) (c_X0_isEnough_2 (n := n) (U := U) (H := H) (vt := vt) (by first | assumption | omega) (by exact hE) (by omega) (by exact hM.sub (fun d hd => (me_land hd).1)) (by exact hq) (by exact hN2)) ms_X0_114 [0, 1, 2] rfl rfl rfl rfl (Nat.le_of_ble_eq_true rfl) rfl ⟨(Nat.le_of_ble_eq_true rfl), (Nat.le_of_ble_eq_true rfl)⟩ ⟨(Nat.le_of_ble_eq_true rfl), (Nat.le_of_ble_eq_true rfl)⟩ rfl (fun _ => rfl) dX0_partsEnough_68 (fun u68 hu68 => ?_)
                obtain ⟨r68, N68⟩ := u68
                dsimp only [putL, List.set_cons_zero, List.set_cons_succ, Option.toList, List.cons_append, List.nil_append] at hu68 ⊢
                refine M.if_neP (pc := 71) (tgt := 76) dX0_partsEnough_71 (by decide) (fun c71 => ?_) (fun c71 => ?_)
                · refine M.iinc (pc := 76) (i := 4) rfl rfl dX0_partsEnough_76 ?_
                  dsimp only [List.set_cons_zero, List.set_cons_succ]
                  refine M.goto (pc := 79) (tgt := 6) dX0_partsEnough_79 (by decide) ?_
                  refine M.forget 5 ?_
                  dsimp only [List.set_cons_zero, List.set_cons_succ]
                  refine M.forget 6 ?_
                  dsimp only [List.set_cons_zero, List.set_cons_succ]
                  rw [show u * 13 + j + 1 = u * 13 + (j + 1) by omega]
                  exact ih6  (by first | assumption | omega) (by intro i h0 h1; rcases (by omega : i < j ∨ i = j) with w | w; exact hok i h0 w; rw [w]; exact ⟨c61, hu68.1.mp c71⟩) (by exact hu68.2) (by omega)
                · refine M.forget 1 ?_
                  dsimp only [List.set_cons_zero, List.set_cons_succ]
                  refine M.forget 2 ?_
                  dsimp only [List.set_cons_zero, List.set_cons_succ]
                  refine M.forget 3 ?_
                  dsimp only [List.set_cons_zero, List.set_cons_succ]
                  refine M.forget 4 ?_
                  dsimp only [List.set_cons_zero, List.set_cons_succ]
                  refine M.forget 5 ?_
                  dsimp only [List.set_cons_zero, List.set_cons_succ]
                  refine M.forget 6 ?_
                  dsimp only [List.set_cons_zero, List.set_cons_succ]
                  exact L74  (by exact OKP.no hS hM.1 (hj j hjj.1 hjJ).2 (Or.inr (fun z => c71 (hu68.1.mpr z)))) (by exact hu68.2)
            · refine M.iconst (pc := 50) dX0_partsEnough_50 ?_
              exact EI (true, N2) _ _ _ _ dX0_partsEnough_51 (Or.inr ⟨rfl, by first | exact Or.inl rfl | exact Or.inr rfl | exact pI_01 _⟩) (rfl) (rfl) (⟨⟨fun _ => OKP.of hS hM.1 hx (by rw [← hwb.2 c47]; exact hok), fun _ => rfl⟩, hN2⟩)
  rw [show u * 13 = u * 13 + 0 by omega]
  exact L6 _ (j := 0) (by first | assumption | omega) (by intro i _ h; omega) (by first | assumption | omega) (Nat.lt_succ_self _)
set_option maxHeartbeats 4000000 in
set_option maxRecDepth 100000 in
theorem c_X0_isEnough_3 {l : Launch} {G : GT} {t aL aU aP aK aN aH : Nat} {cu cp : Int} {cb : Bool} {wP : Int → Int} {wN : Int → Int} {U : Int → Int} {H : Int → Int → Int} {n : Int} {vt : Int → Prop} {S q : Int} (hn : 0 ≤ n ∧ n ≤ 6) (hE : TBE n vt H cu U wP) (hS : 0 ≤ S ∧ S < 8192) (hM : MGD n vt H S) (hq : 0 ≤ q ∧ q ≤ 3) (hN : KN n vt H wN) : Con l G yX0_isEnough cX0_isEnough 7 (some .boolean) { frames := 6, cells := 0, slots := 0, locals := 156 } [.ref t, .int (iI S), .int (iI q)] [(t, eO 0 [.ref aL, .ref aU, .ref aP, .ref aK, .ref aN, .ref aH, .int (iI cu), .int (iI cp), .int (iI (pI (cb = true)))]), (aP, eI G 1664 wP), (aN, eI G 8192 wN)] (S := Bool × (Int → Int)) (fun u => some (.int (iI (pI (u.1 = true))))) (fun u => [(t, eO 0 [.ref aL, .ref aU, .ref aP, .ref aK, .ref aN, .ref aH, .int (iI cu), .int (iI cp), .int (iI (pI (cb = true)))]), (aP, eI G 1664 wP), (aN, eI G 8192 u.2)]) (fun u => (u.1 = true ↔ NL vt H q.toNat S) ∧ KN n vt H u.2) := by
  refine Con.mk (by decide +kernel) [some (.ref t), some (.int (iI S)), some (.int (iI q)), none, none, none, none] rfl (Nat.le_of_ble_eq_true rfl) rfl ?_
  intro V M EI EL EV EA
  obtain ⟨h1a, h1b, h1c, h1d⟩ := one_ok hS
  have hkn := hN S hS hM
  have hkb := hkn.1
  have hEc := hE.1
  have hy0 : sub1 S = 0 → NL0 vt H S := fun z c d hc hd => by rw [h1c z c d hc hd]; exact fun _ _ => rfl
  have hn0 : sub1 S ≠ 0 → ¬ NL0 vt H S := fun z w => by
    obtain ⟨c, d, hc, hd, hcd⟩ := h1d z
    exact hcd (hM.2 c d hc hd (w c d hc hd))
  refine M.iloadn (pc := 0) 1 rfl rfl dX0_isEnough_0 ?_
  refine M.iloadn (pc := 1) 1 rfl rfl dX0_isEnough_1 ?_
  refine M.iconst (pc := 2) dX0_isEnough_2 ?_
  refine M.isub (pc := 3) dX0_isEnough_3 ?_
  refine M.iand (pc := 4) (h1a) dX0_isEnough_4 ?_
  refine M.if_ne (pc := 5) (tgt := 10) dX0_isEnough_5 (by decide) (by omega) (fun c5 => ?_) (fun c5 => ?_)
  · refine M.iloadn (pc := 10) 2 rfl rfl dX0_isEnough_10 ?_
    refine M.if_le (pc := 11) (tgt := 27) dX0_isEnough_11 (by decide) (by omega) (fun c11 => ?_) (fun c11 => ?_)
    · refine M.iconst (pc := 27) dX0_isEnough_27 ?_
      exact EI (false, wN) _ _ _ _ dX0_isEnough_28 (Or.inr ⟨rfl, by first | exact Or.inl rfl | exact Or.inr rfl | exact pI_01 _⟩) (rfl) (rfl) (⟨⟨fun z => absurd (show false = true from z) (by decide), fun z => absurd (show NL vt H 0 S by rw [show q.toNat = 0 by omega] at z; exact z) (hn0 c5)⟩, hN⟩)
    · refine M.iloadn (pc := 14) 1 rfl rfl dX0_isEnough_14 ?_
      refine M.if_lt (pc := 15) (tgt := 27) dX0_isEnough_15 (by decide) (by omega) (fun c15 => ?_) (fun c15 => ?_)
      · exact absurd c15 (by omega)
      · refine M.iloadn (pc := 18) 1 rfl rfl dX0_isEnough_18 ?_
        refine M.aloadn (pc := 19) 0 rfl rfl dX0_isEnough_19 ?_
        refine M.getf (pc := 20) fg_X0_25 0 rfl rfl dX0_isEnough_20 ?_
        refine M.alenI (pc := 23) 2 rfl dX0_isEnough_23 ?_
        refine M.icmp_lt (pc := 24) (tgt := 29) dX0_isEnough_24 (by decide) (by omega) (by omega) (fun c24 => ?_) (fun c24 => ?_)
        · refine M.aloadn (pc := 29) 0 rfl rfl dX0_isEnough_29 ?_
          refine M.getf (pc := 30) fg_X0_25 0 rfl rfl dX0_isEnough_30 ?_
          refine M.iloadn (pc := 33) 1 rfl rfl dX0_isEnough_33 ?_
          refine M.iald (pc := 34) 2 rfl (by omega) (by omega) dX0_isEnough_34 ?_
          refine M.bipush (pc := 35) (by decide +kernel) dX0_isEnough_35 ?_
          refine M.iand (pc := 37) (and15 (by omega)) dX0_isEnough_37 ?_
          refine M.istoren (pc := 38) 3 rfl (Nat.le_of_ble_eq_true rfl) rfl dX0_isEnough_38 ?_
          dsimp only [List.set_cons_zero, List.set_cons_succ]
          refine M.aloadn (pc := 39) 0 rfl rfl dX0_isEnough_39 ?_
          refine M.getf (pc := 40) fg_X0_25 0 rfl rfl dX0_isEnough_40 ?_
          refine M.iloadn (pc := 43) 1 rfl rfl dX0_isEnough_43 ?_
          refine M.iald (pc := 44) 2 rfl (by omega) (by omega) dX0_isEnough_44 ?_
          refine M.iconst (pc := 45) dX0_isEnough_45 ?_
          refine M.ishr (pc := 46) (shr4 (by omega) (by omega)) dX0_isEnough_46 ?_
          refine M.istore (pc := 47) (i := 4) (Nat.le_of_ble_eq_true rfl) rfl dX0_isEnough_47 ?_
          dsimp only [List.set_cons_zero, List.set_cons_succ]
          have L75 : ∀ {r : Bool}, (r = true ↔ NL vt H q.toNat S) → V 0 0 75 [(t, eO 0 [.ref aL, .ref aU, .ref aP, .ref aK, .ref aN, .ref aH, .int (iI cu), .int (iI cp), .int (iI (pI (cb = true)))]), (aP, eI G 1664 wP), (aN, eI G 8192 wN)] [some (.ref t), none, none, none, none, none, none] [.int (iI (pI (r = true)))] := by
            intro r hr
            exact EI (r, wN) _ _ _ _ dX0_isEnough_75 (Or.inr ⟨rfl, by first | exact Or.inl rfl | exact Or.inr rfl | exact pI_01 _⟩) (rfl) (rfl) (⟨hr, hN⟩)
          refine M.iloadn (pc := 49) 2 rfl rfl dX0_isEnough_49 ?_
          refine M.iloadn (pc := 50) 3 rfl rfl dX0_isEnough_50 ?_
          refine M.icmp_le (pc := 51) (tgt := 65) dX0_isEnough_51 (by decide) (by omega) (by omega) (fun c51 => ?_) (fun c51 => ?_)
          · refine M.iloadn (pc := 65) 2 rfl rfl dX0_isEnough_65 ?_
            refine M.iloadn (pc := 66) 3 rfl rfl dX0_isEnough_66 ?_
            refine M.icmp_le (pc := 67) (tgt := 74) dX0_isEnough_67 (by decide) (by omega) (by omega) (fun c67 => ?_) (fun c67 => ?_)
            · refine M.iconst (pc := 74) dX0_isEnough_74 ?_
              refine M.forget 1 ?_
              dsimp only [List.set_cons_zero, List.set_cons_succ]
              refine M.forget 2 ?_
              dsimp only [List.set_cons_zero, List.set_cons_succ]
              refine M.forget 3 ?_
              dsimp only [List.set_cons_zero, List.set_cons_succ]
              refine M.forget 4 ?_
              dsimp only [List.set_cons_zero, List.set_cons_succ]
              exact L75 (r := false) (by exact ⟨fun z => absurd z (by decide), fun z => absurd (NL.up (by omega) z) (hkn.2.1 (by omega))⟩)
            · refine M.iconst (pc := 70) dX0_isEnough_70 ?_
              refine M.goto (pc := 71) (tgt := 75) dX0_isEnough_71 (by decide) ?_
              refine M.forget 1 ?_
              dsimp only [List.set_cons_zero, List.set_cons_succ]
              refine M.forget 2 ?_
              dsimp only [List.set_cons_zero, List.set_cons_succ]
              refine M.forget 3 ?_
              dsimp only [List.set_cons_zero, List.set_cons_succ]
              refine M.forget 4 ?_
              dsimp only [List.set_cons_zero, List.set_cons_succ]
              exact L75 (r := true) (by exact ⟨fun _ => (by first | exact absurd c51 (by omega) | exact (hkn.2.2 c56).up (by omega)), fun _ => rfl⟩)
          · refine M.iload (pc := 54) (i := 4) rfl dX0_isEnough_54 ?_
            refine M.if_eq (pc := 56) (tgt := 76) dX0_isEnough_56 (by decide) (by omega) (fun c56 => ?_) (fun c56 => ?_)
            · refine M.iconst (pc := 76) dX0_isEnough_76 ?_
              refine M.istore (pc := 77) (i := 5) (Nat.le_of_ble_eq_true rfl) rfl dX0_isEnough_77 ?_
              dsimp only [List.set_cons_zero, List.set_cons_succ]
              refine M.iconst (pc := 79) dX0_isEnough_79 ?_
              refine M.istore (pc := 80) (i := 6) (Nat.le_of_ble_eq_true rfl) rfl dX0_isEnough_80 ?_
              dsimp only [List.set_cons_zero, List.set_cons_succ]
              have L82 : ∀ (fu : Nat) {f : Bool} {u : Int} {N2 : Int → Int}, (0 ≤ u ∧ u ≤ cu) → ((f = true → NL vt H q.toNat S) ∧ (f = false → ∀ v, 0 ≤ v → v < u → ¬ OKP vt H (U v) S (q - 1).toNat)) → (KN n vt H N2) → (cu - u).toNat < fu → V 0 0 82 [(t, eO 0 [.ref aL, .ref aU, .ref aP, .ref aK, .ref aN, .ref aH, .int (iI cu), .int (iI cp), .int (iI (pI (cb = true)))]), (aP, eI G 1664 wP), (aN, eI G 8192 N2)] [some (.ref t), some (.int (iI S)), some (.int (iI q)), some (.int (iI (wN S % 16))), some (.int (iI (wN S / 16))), some (.int (iI (pI (f = true)))), some (.int (iI u))] [] := by
                intro fu
                induction fu with
                | zero => intro f u N2 hu hf hN2 hm; exact absurd hm (Nat.not_lt_zero _)
                | succ fu ih82 =>
                  intro f u N2 hu hf hN2 hm82
                  refine M.iload (pc := 82) (i := 5) rfl dX0_isEnough_82 ?_
                  have L114 : (f = true ↔ NL vt H q.toNat S) → V 0 0 114 [(t, eO 0 [.ref aL, .ref aU, .ref aP, .ref aK, .ref aN, .ref aH, .int (iI cu), .int (iI cp), .int (iI (pI (cb = true)))]), (aP, eI G 1664 wP), (aN, eI G 8192 N2)] [some (.ref t), some (.int (iI S)), some (.int (iI q)), some (.int (iI (wN S % 16))), some (.int (iI (wN S / 16))), some (.int (iI (pI (f = true)))), some (.int (iI u))] [] := by
                    intro  hfin
                    refine M.aloadn (pc := 114) 0 rfl rfl dX0_isEnough_114 ?_
                    refine M.getf (pc := 115) fg_X0_25 0 rfl rfl dX0_isEnough_115 ?_
                    have L138 : ∀ {val : Int}, (KN n vt H (upZ N2 S val)) → V 0 0 138 [(t, eO 0 [.ref aL, .ref aU, .ref aP, .ref aK, .ref aN, .ref aH, .int (iI cu), .int (iI cp), .int (iI (pI (cb = true)))]), (aP, eI G 1664 wP), (aN, eI G 8192 N2)] [some (.ref t), some (.int (iI S)), some (.int (iI q)), some (.int (iI (wN S % 16))), some (.int (iI (wN S / 16))), some (.int (iI (pI (f = true)))), some (.int (iI u))] [.int (iI val), .int (iI S), .ref aN] := by
                      intro val hval
                      refine M.iast (pc := 138) 2 rfl (by omega) (by omega) dX0_isEnough_138 ?_
                      dsimp only [List.set_cons_zero, List.set_cons_succ]
                      refine M.iload (pc := 139) (i := 5) rfl dX0_isEnough_139 ?_
                      exact EI (f, upZ N2 S val) _ _ _ _ dX0_isEnough_141 (Or.inr ⟨rfl, by first | exact Or.inl rfl | exact Or.inr rfl | exact pI_01 _⟩) (rfl) (rfl) (⟨hfin, hval⟩)
                    refine M.iloadn (pc := 118) 1 rfl rfl dX0_isEnough_118 ?_
                    refine M.iload (pc := 119) (i := 5) rfl dX0_isEnough_119 ?_
                    refine M.if_eqP (pc := 121) (tgt := 132) dX0_isEnough_121 (by decide) (fun c121 => ?_) (fun c121 => ?_)
                    · refine M.iloadn (pc := 132) 2 rfl rfl dX0_isEnough_132 ?_
                      refine M.iload (pc := 133) (i := 4) rfl dX0_isEnough_133 ?_
                      refine M.iconst (pc := 135) dX0_isEnough_135 ?_
                      refine M.ishl (pc := 136) (sh4 (by omega)) dX0_isEnough_136 ?_
                      refine M.ior (pc := 137) (or4 (by omega) (by omega)) dX0_isEnough_137 ?_
                      have e1 : (q + wN S / 16 * 16) % 16 = q := by omega
                      have e2 : (q + wN S / 16 * 16) / 16 = wN S / 16 := by omega
                      exact L138  (by exact hN2.up (by rw [e1, e2]; omega) (by rw [e1]; exact fun _ z => c121 (hfin.mpr z)) (by rw [e2]; exact hkn.2.2))
                    · refine M.iloadn (pc := 124) 3 rfl rfl dX0_isEnough_124 ?_
                      refine M.iloadn (pc := 125) 2 rfl rfl dX0_isEnough_125 ?_
                      refine M.iconst (pc := 126) dX0_isEnough_126 ?_
                      refine M.ishl (pc := 127) (sh4 (by omega)) dX0_isEnough_127 ?_
                      refine M.ior (pc := 128) (or4 (by omega) (by omega)) dX0_isEnough_128 ?_
                      refine M.goto (pc := 129) (tgt := 138) dX0_isEnough_129 (by decide) ?_
                      have e1 : (wN S % 16 + q * 16) % 16 = wN S % 16 := by omega
                      have e2 : (wN S % 16 + q * 16) / 16 = q := by omega
                      exact L138  (by exact hN2.up (by rw [e1, e2]; omega) (by rw [e1]; exact hkn.2.1) (by rw [e2]; exact fun _ => hfin.mp c121))
                  refine M.if_neP (pc := 84) (tgt := 114) dX0_isEnough_84 (by decide) (fun c84 => ?_) (fun c84 => ?_)
                  · exact L114  (by exact ⟨fun _ => hf.1 c84, fun _ => c84⟩)
                  · refine M.iload (pc := 87) (i := 6) rfl dX0_isEnough_87 ?_
                    refine M.aloadn (pc := 89) 0 rfl rfl dX0_isEnough_89 ?_
                    refine M.getf (pc := 90) fg_X0_43 0 rfl rfl dX0_isEnough_90 ?_
                    refine M.icmp_ge (pc := 93) (tgt := 114) dX0_isEnough_93 (by decide) (by omega) (by omega) (fun c93 => ?_) (fun c93 => ?_)
                    · exact L114  (by exact ⟨fun z => absurd z c84, fun z => absurd (NL.okp (by omega) (hn0 c5) z) (fun ⟨s, h1, h2⟩ => (hE.cov hn hM.1 h1 h2).elim (fun v hv => hf.2 (Bool.eq_false_iff.mpr c84) v hv.1.1 (by omega) hv.2.2))⟩)
                    · refine M.aloadn (pc := 96) 0 rfl rfl dX0_isEnough_96 ?_
                      refine M.iload (pc := 97) (i := 6) rfl dX0_isEnough_97 ?_
                      refine M.iloadn (pc := 99) 1 rfl rfl dX0_isEnough_99 ?_
                      refine M.iloadn (pc := 100) 2 rfl rfl dX0_isEnough_100 ?_
                      refine M.iconst (pc := 101) dX0_isEnough_101 ?_
                      refine M.isub (pc := 102) dX0_isEnough_102 ?_
                      refine M.mS (pc := 103) (c_X0_partsEnough_2 (n := n) (U := U) (H := H) (vt := vt) (by first | assumption | omega) (by exact hE) (by exact hS) (by exact hM) (by omega) (by exact hN2) (by omega)) ms_X0_118 [0, 1, 2] rfl rfl rfl rfl (Nat.le_of_ble_eq_true rfl) rfl ⟨(Nat.le_of_ble_eq_true rfl), (Nat.le_of_ble_eq_true rfl)⟩ ⟨(Nat.le_of_ble_eq_true rfl), (Nat.le_of_ble_eq_true rfl)⟩ rfl (fun _ => rfl) dX0_isEnough_103 (fun u103 hu103 => ?_)
                      obtain ⟨r103, N103⟩ := u103
                      dsimp only [putL, List.set_cons_zero, List.set_cons_succ, Option.toList, List.cons_append, List.nil_append] at hu103 ⊢
                      refine M.istore (pc := 106) (i := 5) (Nat.le_of_ble_eq_true rfl) rfl dX0_isEnough_106 ?_
                      dsimp only [List.set_cons_zero, List.set_cons_succ]
                      refine M.iinc (pc := 108) (i := 6) rfl rfl dX0_isEnough_108 ?_
                      dsimp only [List.set_cons_zero, List.set_cons_succ]
                      refine M.goto (pc := 111) (tgt := 82) dX0_isEnough_111 (by decide) ?_
                      exact ih82  (by first | assumption | omega) (by exact ⟨fun z => OKP.nl (by omega) (hE.2.1 u hu.1 (by omega)).1 (hu103.1.mp z), fun z v h0 h1 => (by omega : v < u ∨ v = u).elim (fun w => hf.2 (Bool.eq_false_iff.mpr c84) v h0 w) (fun w y => absurd (hu103.1.mpr (by rw [← w]; exact y)) (by show ¬ r103 = true; rw [show r103 = false from z]; decide))⟩) (by exact hu103.2) (by omega)
              exact L82 _ (f := false) (by first | assumption | omega) (by exact ⟨fun z => absurd z (by decide), fun _ v _ h => by omega⟩) (by first | assumption | omega) (Nat.lt_succ_self _)
            · refine M.iloadn (pc := 59) 2 rfl rfl dX0_isEnough_59 ?_
              refine M.iload (pc := 60) (i := 4) rfl dX0_isEnough_60 ?_
              refine M.icmp_lt (pc := 62) (tgt := 76) dX0_isEnough_62 (by decide) (by omega) (by omega) (fun c62 => ?_) (fun c62 => ?_)
              · refine M.iconst (pc := 76) dX0_isEnough_76 ?_
                refine M.istore (pc := 77) (i := 5) (Nat.le_of_ble_eq_true rfl) rfl dX0_isEnough_77 ?_
                dsimp only [List.set_cons_zero, List.set_cons_succ]
                refine M.iconst (pc := 79) dX0_isEnough_79 ?_
                refine M.istore (pc := 80) (i := 6) (Nat.le_of_ble_eq_true rfl) rfl dX0_isEnough_80 ?_
                dsimp only [List.set_cons_zero, List.set_cons_succ]
                have L82 : ∀ (fu : Nat) {f : Bool} {u : Int} {N2 : Int → Int}, (0 ≤ u ∧ u ≤ cu) → ((f = true → NL vt H q.toNat S) ∧ (f = false → ∀ v, 0 ≤ v → v < u → ¬ OKP vt H (U v) S (q - 1).toNat)) → (KN n vt H N2) → (cu - u).toNat < fu → V 0 0 82 [(t, eO 0 [.ref aL, .ref aU, .ref aP, .ref aK, .ref aN, .ref aH, .int (iI cu), .int (iI cp), .int (iI (pI (cb = true)))]), (aP, eI G 1664 wP), (aN, eI G 8192 N2)] [some (.ref t), some (.int (iI S)), some (.int (iI q)), some (.int (iI (wN S % 16))), some (.int (iI (wN S / 16))), some (.int (iI (pI (f = true)))), some (.int (iI u))] [] := by
                  intro fu
                  induction fu with
                  | zero => intro f u N2 hu hf hN2 hm; exact absurd hm (Nat.not_lt_zero _)
                  | succ fu ih82 =>
                    intro f u N2 hu hf hN2 hm82
                    refine M.iload (pc := 82) (i := 5) rfl dX0_isEnough_82 ?_
                    have L114 : (f = true ↔ NL vt H q.toNat S) → V 0 0 114 [(t, eO 0 [.ref aL, .ref aU, .ref aP, .ref aK, .ref aN, .ref aH, .int (iI cu), .int (iI cp), .int (iI (pI (cb = true)))]), (aP, eI G 1664 wP), (aN, eI G 8192 N2)] [some (.ref t), some (.int (iI S)), some (.int (iI q)), some (.int (iI (wN S % 16))), some (.int (iI (wN S / 16))), some (.int (iI (pI (f = true)))), some (.int (iI u))] [] := by
                      intro  hfin
                      refine M.aloadn (pc := 114) 0 rfl rfl dX0_isEnough_114 ?_
                      refine M.getf (pc := 115) fg_X0_25 0 rfl rfl dX0_isEnough_115 ?_
                      have L138 : ∀ {val : Int}, (KN n vt H (upZ N2 S val)) → V 0 0 138 [(t, eO 0 [.ref aL, .ref aU, .ref aP, .ref aK, .ref aN, .ref aH, .int (iI cu), .int (iI cp), .int (iI (pI (cb = true)))]), (aP, eI G 1664 wP), (aN, eI G 8192 N2)] [some (.ref t), some (.int (iI S)), some (.int (iI q)), some (.int (iI (wN S % 16))), some (.int (iI (wN S / 16))), some (.int (iI (pI (f = true)))), some (.int (iI u))] [.int (iI val), .int (iI S), .ref aN] := by
                        intro val hval
                        refine M.iast (pc := 138) 2 rfl (by omega) (by omega) dX0_isEnough_138 ?_
                        dsimp only [List.set_cons_zero, List.set_cons_succ]
                        refine M.iload (pc := 139) (i := 5) rfl dX0_isEnough_139 ?_
                        exact EI (f, upZ N2 S val) _ _ _ _ dX0_isEnough_141 (Or.inr ⟨rfl, by first | exact Or.inl rfl | exact Or.inr rfl | exact pI_01 _⟩) (rfl) (rfl) (⟨hfin, hval⟩)
                      refine M.iloadn (pc := 118) 1 rfl rfl dX0_isEnough_118 ?_
                      refine M.iload (pc := 119) (i := 5) rfl dX0_isEnough_119 ?_
                      refine M.if_eqP (pc := 121) (tgt := 132) dX0_isEnough_121 (by decide) (fun c121 => ?_) (fun c121 => ?_)
                      · refine M.iloadn (pc := 132) 2 rfl rfl dX0_isEnough_132 ?_
                        refine M.iload (pc := 133) (i := 4) rfl dX0_isEnough_133 ?_
                        refine M.iconst (pc := 135) dX0_isEnough_135 ?_
                        refine M.ishl (pc := 136) (sh4 (by omega)) dX0_isEnough_136 ?_
                        refine M.ior (pc := 137) (or4 (by omega) (by omega)) dX0_isEnough_137 ?_
                        have e1 : (q + wN S / 16 * 16) % 16 = q := by omega
                        have e2 : (q + wN S / 16 * 16) / 16 = wN S / 16 := by omega
                        exact L138  (by exact hN2.up (by rw [e1, e2]; omega) (by rw [e1]; exact fun _ z => c121 (hfin.mpr z)) (by rw [e2]; exact hkn.2.2))
                      · refine M.iloadn (pc := 124) 3 rfl rfl dX0_isEnough_124 ?_
                        refine M.iloadn (pc := 125) 2 rfl rfl dX0_isEnough_125 ?_
                        refine M.iconst (pc := 126) dX0_isEnough_126 ?_
                        refine M.ishl (pc := 127) (sh4 (by omega)) dX0_isEnough_127 ?_
                        refine M.ior (pc := 128) (or4 (by omega) (by omega)) dX0_isEnough_128 ?_
                        refine M.goto (pc := 129) (tgt := 138) dX0_isEnough_129 (by decide) ?_
                        have e1 : (wN S % 16 + q * 16) % 16 = wN S % 16 := by omega
                        have e2 : (wN S % 16 + q * 16) / 16 = q := by omega
                        exact L138  (by exact hN2.up (by rw [e1, e2]; omega) (by rw [e1]; exact hkn.2.1) (by rw [e2]; exact fun _ => hfin.mp c121))
                    refine M.if_neP (pc := 84) (tgt := 114) dX0_isEnough_84 (by decide) (fun c84 => ?_) (fun c84 => ?_)
                    · exact L114  (by exact ⟨fun _ => hf.1 c84, fun _ => c84⟩)
                    · refine M.iload (pc := 87) (i := 6) rfl dX0_isEnough_87 ?_
                      refine M.aloadn (pc := 89) 0 rfl rfl dX0_isEnough_89 ?_
                      refine M.getf (pc := 90) fg_X0_43 0 rfl rfl dX0_isEnough_90 ?_
                      refine M.icmp_ge (pc := 93) (tgt := 114) dX0_isEnough_93 (by decide) (by omega) (by omega) (fun c93 => ?_) (fun c93 => ?_)
                      · exact L114  (by exact ⟨fun z => absurd z c84, fun z => absurd (NL.okp (by omega) (hn0 c5) z) (fun ⟨s, h1, h2⟩ => (hE.cov hn hM.1 h1 h2).elim (fun v hv => hf.2 (Bool.eq_false_iff.mpr c84) v hv.1.1 (by omega) hv.2.2))⟩)
                      · refine M.aloadn (pc := 96) 0 rfl rfl dX0_isEnough_96 ?_
                        refine M.iload (pc := 97) (i := 6) rfl dX0_isEnough_97 ?_
                        refine M.iloadn (pc := 99) 1 rfl rfl dX0_isEnough_99 ?_
                        refine M.iloadn (pc := 100) 2 rfl rfl dX0_isEnough_100 ?_
                        refine M.iconst (pc := 101) dX0_isEnough_101 ?_
                        refine M.isub (pc := 102) dX0_isEnough_102 ?_
                        refine M.mS (pc := 103) (c_X0_partsEnough_2 (n := n) (U := U) (H := H) (vt := vt) (by first | assumption | omega) (by exact hE) (by exact hS) (by exact hM) (by omega) (by exact hN2) (by omega)) ms_X0_118 [0, 1, 2] rfl rfl rfl rfl (Nat.le_of_ble_eq_true rfl) rfl ⟨(Nat.le_of_ble_eq_true rfl), (Nat.le_of_ble_eq_true rfl)⟩ ⟨(Nat.le_of_ble_eq_true rfl), (Nat.le_of_ble_eq_true rfl)⟩ rfl (fun _ => rfl) dX0_isEnough_103 (fun u103 hu103 => ?_)
                        obtain ⟨r103, N103⟩ := u103
                        dsimp only [putL, List.set_cons_zero, List.set_cons_succ, Option.toList, List.cons_append, List.nil_append] at hu103 ⊢
                        refine M.istore (pc := 106) (i := 5) (Nat.le_of_ble_eq_true rfl) rfl dX0_isEnough_106 ?_
                        dsimp only [List.set_cons_zero, List.set_cons_succ]
                        refine M.iinc (pc := 108) (i := 6) rfl rfl dX0_isEnough_108 ?_
                        dsimp only [List.set_cons_zero, List.set_cons_succ]
                        refine M.goto (pc := 111) (tgt := 82) dX0_isEnough_111 (by decide) ?_
                        exact ih82  (by first | assumption | omega) (by exact ⟨fun z => OKP.nl (by omega) (hE.2.1 u hu.1 (by omega)).1 (hu103.1.mp z), fun z v h0 h1 => (by omega : v < u ∨ v = u).elim (fun w => hf.2 (Bool.eq_false_iff.mpr c84) v h0 w) (fun w y => absurd (hu103.1.mpr (by rw [← w]; exact y)) (by show ¬ r103 = true; rw [show r103 = false from z]; decide))⟩) (by exact hu103.2) (by omega)
                exact L82 _ (f := false) (by first | assumption | omega) (by exact ⟨fun z => absurd z (by decide), fun _ v _ h => by omega⟩) (by first | assumption | omega) (Nat.lt_succ_self _)
              · refine M.iloadn (pc := 65) 2 rfl rfl dX0_isEnough_65 ?_
                refine M.iloadn (pc := 66) 3 rfl rfl dX0_isEnough_66 ?_
                refine M.icmp_le (pc := 67) (tgt := 74) dX0_isEnough_67 (by decide) (by omega) (by omega) (fun c67 => ?_) (fun c67 => ?_)
                · refine M.iconst (pc := 74) dX0_isEnough_74 ?_
                  refine M.forget 1 ?_
                  dsimp only [List.set_cons_zero, List.set_cons_succ]
                  refine M.forget 2 ?_
                  dsimp only [List.set_cons_zero, List.set_cons_succ]
                  refine M.forget 3 ?_
                  dsimp only [List.set_cons_zero, List.set_cons_succ]
                  refine M.forget 4 ?_
                  dsimp only [List.set_cons_zero, List.set_cons_succ]
                  exact L75 (r := false) (by exact ⟨fun z => absurd z (by decide), fun z => absurd (NL.up (by omega) z) (hkn.2.1 (by omega))⟩)
                · refine M.iconst (pc := 70) dX0_isEnough_70 ?_
                  refine M.goto (pc := 71) (tgt := 75) dX0_isEnough_71 (by decide) ?_
                  refine M.forget 1 ?_
                  dsimp only [List.set_cons_zero, List.set_cons_succ]
                  refine M.forget 2 ?_
                  dsimp only [List.set_cons_zero, List.set_cons_succ]
                  refine M.forget 3 ?_
                  dsimp only [List.set_cons_zero, List.set_cons_succ]
                  refine M.forget 4 ?_
                  dsimp only [List.set_cons_zero, List.set_cons_succ]
                  exact L75 (r := true) (by exact ⟨fun _ => (by first | exact absurd c51 (by omega) | exact (hkn.2.2 c56).up (by omega)), fun _ => rfl⟩)
        · exact absurd c24 (by omega)
  · refine M.iconst (pc := 8) dX0_isEnough_8 ?_
    exact EI (true, wN) _ _ _ _ dX0_isEnough_9 (Or.inr ⟨rfl, by first | exact Or.inl rfl | exact Or.inr rfl | exact pI_01 _⟩) (rfl) (rfl) (⟨⟨fun _ => NL.up (Nat.zero_le _) (show NL vt H 0 S from hy0 c5), fun _ => rfl⟩, hN⟩)
set_option maxHeartbeats 4000000 in
set_option maxRecDepth 100000 in
theorem c_X0_partsEnough_3 {l : Launch} {G : GT} {t aL aU aP aK aN aH : Nat} {cu cp : Int} {cb : Bool} {wP : Int → Int} {wN : Int → Int} {U : Int → Int} {H : Int → Int → Int} {n : Int} {vt : Int → Prop} {u S q : Int} (hn : 0 ≤ n ∧ n ≤ 6) (hE : TBE n vt H cu U wP) (hS : 0 ≤ S ∧ S < 8192) (hM : MGD n vt H S) (hq : 0 ≤ q ∧ q ≤ 3) (hN : KN n vt H wN) (hu : 0 ≤ u ∧ u < cu) : Con l G yX0_partsEnough cX0_partsEnough 7 (some .boolean) { frames := 7, cells := 0, slots := 0, locals := 182 } [.ref t, .int (iI u), .int (iI S), .int (iI q)] [(t, eO 0 [.ref aL, .ref aU, .ref aP, .ref aK, .ref aN, .ref aH, .int (iI cu), .int (iI cp), .int (iI (pI (cb = true)))]), (aP, eI G 1664 wP), (aN, eI G 8192 wN)] (S := Bool × (Int → Int)) (fun u => some (.int (iI (pI (u.1 = true))))) (fun u => [(t, eO 0 [.ref aL, .ref aU, .ref aP, .ref aK, .ref aN, .ref aH, .int (iI cu), .int (iI cp), .int (iI (pI (cb = true)))]), (aP, eI G 1664 wP), (aN, eI G 8192 u.2)]) (fun x => (x.1 = true ↔ OKP vt H (U u) S q.toNat) ∧ KN n vt H x.2) := by
  refine Con.mk (by decide +kernel) [some (.ref t), some (.int (iI u)), some (.int (iI S)), some (.int (iI q)), none, none, none] rfl (Nat.le_of_ble_eq_true rfl) rfl ?_
  intro V M EI EL EV EA
  have hEc := hE.1
  obtain ⟨hvt, J, hJ, hj, hz, hx⟩ := hE.2.1 u hu.1 hu.2
  refine M.iloadn (pc := 0) 1 rfl rfl dX0_partsEnough_0 ?_
  refine M.bipush (pc := 1) (by decide +kernel) dX0_partsEnough_1 ?_
  refine M.imul (pc := 3) dX0_partsEnough_3 ?_
  refine M.istore (pc := 4) (i := 4) (Nat.le_of_ble_eq_true rfl) rfl dX0_partsEnough_4 ?_
  dsimp only [List.set_cons_zero, List.set_cons_succ]
  have L6 : ∀ (fu : Nat) {j : Int} {N2 : Int → Int}, (0 ≤ j ∧ j ≤ J) → (∀ i, 0 ≤ i → i < j → land S (wP (u * 13 + i)) ≠ S ∧ NL vt H q.toNat (land S (wP (u * 13 + i)))) → (KN n vt H N2) → (13 - j).toNat < fu → V 0 0 6 [(t, eO 0 [.ref aL, .ref aU, .ref aP, .ref aK, .ref aN, .ref aH, .int (iI cu), .int (iI cp), .int (iI (pI (cb = true)))]), (aP, eI G 1664 wP), (aN, eI G 8192 N2)] [some (.ref t), some (.int (iI u)), some (.int (iI S)), some (.int (iI q)), some (.int (iI (u * 13 + j))), none, none] [] := by
    intro fu
    induction fu with
    | zero => intro j N2 hjj hok hN2 hm; exact absurd hm (Nat.not_lt_zero _)
    | succ fu ih6 =>
      intro j N2 hjj hok hN2 hm6
      refine M.iload (pc := 6) (i := 4) rfl dX0_partsEnough_6 ?_
      refine M.iloadn (pc := 8) 1 rfl rfl dX0_partsEnough_8 ?_
      refine M.iconst (pc := 9) dX0_partsEnough_9 ?_
      refine M.iadd (pc := 10) dX0_partsEnough_10 ?_
      refine M.bipush (pc := 11) (by decide +kernel) dX0_partsEnough_11 ?_
      refine M.imul (pc := 13) dX0_partsEnough_13 ?_
      refine M.icmp_ge (pc := 14) (tgt := 82) dX0_partsEnough_14 (by decide) (by omega) (by omega) (fun c14 => ?_) (fun c14 => ?_)
      · refine M.iconst (pc := 82) dX0_partsEnough_82 ?_
        exact EI (true, N2) _ _ _ _ dX0_partsEnough_83 (Or.inr ⟨rfl, by first | exact Or.inl rfl | exact Or.inr rfl | exact pI_01 _⟩) (rfl) (rfl) (⟨⟨fun _ => OKP.of hS hM.1 hx (by rw [show J = j by omega]; exact hok), fun _ => rfl⟩, hN2⟩)
      · refine M.iload (pc := 17) (i := 4) rfl dX0_partsEnough_17 ?_
        refine M.if_lt (pc := 19) (tgt := 42) dX0_partsEnough_19 (by decide) (by omega) (fun c19 => ?_) (fun c19 => ?_)
        · exact absurd c19 (by omega)
        · refine M.iload (pc := 22) (i := 4) rfl dX0_partsEnough_22 ?_
          refine M.aloadn (pc := 24) 0 rfl rfl dX0_partsEnough_24 ?_
          refine M.getf (pc := 25) fg_X0_19 0 rfl rfl dX0_partsEnough_25 ?_
          refine M.alenI (pc := 28) 1 rfl dX0_partsEnough_28 ?_
          refine M.icmp_ge (pc := 29) (tgt := 42) dX0_partsEnough_29 (by decide) (by omega) (by omega) (fun c29 => ?_) (fun c29 => ?_)
          · exact absurd c29 (by omega)
          · refine M.aloadn (pc := 32) 0 rfl rfl dX0_partsEnough_32 ?_
            refine M.getf (pc := 33) fg_X0_19 0 rfl rfl dX0_partsEnough_33 ?_
            refine M.iload (pc := 36) (i := 4) rfl dX0_partsEnough_36 ?_
            refine M.iald (pc := 38) 1 rfl (by omega) (by omega) dX0_partsEnough_38 ?_
            refine M.goto (pc := 39) (tgt := 43) dX0_partsEnough_39 (by decide) ?_
            refine M.istore (pc := 43) (i := 5) (Nat.le_of_ble_eq_true rfl) rfl dX0_partsEnough_43 ?_
            dsimp only [List.set_cons_zero, List.set_cons_succ]
            have hwb : (0 ≤ wP (u * 13 + j) ∧ wP (u * 13 + j) < 8192) ∧ (wP (u * 13 + j) = 0 → j = J) := by
              rcases (by omega : j < J ∨ j = J) with w | w
              · obtain ⟨h1, x, h2, h3⟩ := hj j hjj.1 w
                have h4 : 0 ≤ PT H (U u) (cm (prB n) 13) x ∧ PT H (U u) (cm (prB n) 13) x < 8192 := cm_13b _
                exact ⟨by rw [h3]; exact h4, fun z => absurd z h1⟩
              · have h5 := hz (by omega)
                rw [w, h5]
                exact ⟨by omega, fun _ => rfl⟩
            refine M.iload (pc := 45) (i := 5) rfl dX0_partsEnough_45 ?_
            refine M.if_ne (pc := 47) (tgt := 52) dX0_partsEnough_47 (by decide) (by omega) (fun c47 => ?_) (fun c47 => ?_)
            · have hjJ : j < J := by
                rcases (by omega : j < J ∨ j = J) with w | w
                · exact w
                · exact absurd (by rw [w]; exact hz (by omega)) c47
              have hll := land_b (a := S) (b := wP (u * 13 + j)) hS.1 hwb.1.1
              refine M.iloadn (pc := 52) 2 rfl rfl dX0_partsEnough_52 ?_
              refine M.iload (pc := 53) (i := 5) rfl dX0_partsEnough_53 ?_
              refine M.iand (pc := 55) (land_ok hS.1 hwb.1.1) dX0_partsEnough_55 ?_
              have L74 : ∀ {N3 : Int → Int}, (¬ OKP vt H (U u) S q.toNat) → (KN n vt H N3) → V 0 0 74 [(t, eO 0 [.ref aL, .ref aU, .ref aP, .ref aK, .ref aN, .ref aH, .int (iI cu), .int (iI cp), .int (iI (pI (cb = true)))]), (aP, eI G 1664 wP), (aN, eI G 8192 N3)] [some (.ref t), none, none, none, none, none, none] [] := by
                intro N3 hno hN3
                refine M.iconst (pc := 74) dX0_partsEnough_74 ?_
                exact EI (false, N3) _ _ _ _ dX0_partsEnough_75 (Or.inr ⟨rfl, by first | exact Or.inl rfl | exact Or.inr rfl | exact pI_01 _⟩) (rfl) (rfl) (⟨⟨fun z => absurd (show false = true from z) (by decide), fun z => absurd z hno⟩, hN3⟩)
              refine M.istore (pc := 56) (i := 6) (Nat.le_of_ble_eq_true rfl) rfl dX0_partsEnough_56 ?_
              dsimp only [List.set_cons_zero, List.set_cons_succ]
              refine M.iload (pc := 58) (i := 6) rfl dX0_partsEnough_58 ?_
              refine M.iloadn (pc := 60) 2 rfl rfl dX0_partsEnough_60 ?_
              refine M.icmp_eq (pc := 61) (tgt := 74) dX0_partsEnough_61 (by decide) (by omega) (by omega) (fun c61 => ?_) (fun c61 => ?_)
              · refine M.forget 1 ?_
                dsimp only [List.set_cons_zero, List.set_cons_succ]
                refine M.forget 2 ?_
                dsimp only [List.set_cons_zero, List.set_cons_succ]
                refine M.forget 3 ?_
                dsimp only [List.set_cons_zero, List.set_cons_succ]
                refine M.forget 4 ?_
                dsimp only [List.set_cons_zero, List.set_cons_succ]
                refine M.forget 5 ?_
                dsimp only [List.set_cons_zero, List.set_cons_succ]
                refine M.forget 6 ?_
                dsimp only [List.set_cons_zero, List.set_cons_succ]
                exact L74  (by exact OKP.no hS hM.1 (hj j hjj.1 hjJ).2 (Or.inl c61)) (by exact hN2)
              · refine M.aloadn (pc := 64) 0 rfl rfl dX0_partsEnough_64 ?_
                refine M.iload (pc := 65) (i := 6) rfl dX0_partsEnough_65 ?_
                refine M.iloadn (pc := 67) 3 rfl rfl dX0_partsEnough_67 ?_
                refine M.mS (pc := 68) (c_X0_isEnough_3 (n := n) (U := U) (H := H) (vt := vt) (by first | assumption | omega) (by exact hE) (by omega) (by exact hM.sub (fun d hd => (me_land hd).1)) (by exact hq) (by exact hN2)) ms_X0_114 [0, 1, 2] rfl rfl rfl rfl (Nat.le_of_ble_eq_true rfl) rfl ⟨(Nat.le_of_ble_eq_true rfl), (Nat.le_of_ble_eq_true rfl)⟩ ⟨(Nat.le_of_ble_eq_true rfl), (Nat.le_of_ble_eq_true rfl)⟩ rfl (fun _ => rfl) dX0_partsEnough_68 (fun u68 hu68 => ?_)
                obtain ⟨r68, N68⟩ := u68
                dsimp only [putL, List.set_cons_zero, List.set_cons_succ, Option.toList, List.cons_append, List.nil_append] at hu68 ⊢
                refine M.if_neP (pc := 71) (tgt := 76) dX0_partsEnough_71 (by decide) (fun c71 => ?_) (fun c71 => ?_)
                · refine M.iinc (pc := 76) (i := 4) rfl rfl dX0_partsEnough_76 ?_
                  dsimp only [List.set_cons_zero, List.set_cons_succ]
                  refine M.goto (pc := 79) (tgt := 6) dX0_partsEnough_79 (by decide) ?_
                  refine M.forget 5 ?_
                  dsimp only [List.set_cons_zero, List.set_cons_succ]
                  refine M.forget 6 ?_
                  dsimp only [List.set_cons_zero, List.set_cons_succ]
                  rw [show u * 13 + j + 1 = u * 13 + (j + 1) by omega]
                  exact ih6  (by first | assumption | omega) (by intro i h0 h1; rcases (by omega : i < j ∨ i = j) with w | w; exact hok i h0 w; rw [w]; exact ⟨c61, hu68.1.mp c71⟩) (by exact hu68.2) (by omega)
                · refine M.forget 1 ?_
                  dsimp only [List.set_cons_zero, List.set_cons_succ]
                  refine M.forget 2 ?_
                  dsimp only [List.set_cons_zero, List.set_cons_succ]
                  refine M.forget 3 ?_
                  dsimp only [List.set_cons_zero, List.set_cons_succ]
                  refine M.forget 4 ?_
                  dsimp only [List.set_cons_zero, List.set_cons_succ]
                  refine M.forget 5 ?_
                  dsimp only [List.set_cons_zero, List.set_cons_succ]
                  refine M.forget 6 ?_
                  dsimp only [List.set_cons_zero, List.set_cons_succ]
                  exact L74  (by exact OKP.no hS hM.1 (hj j hjj.1 hjJ).2 (Or.inr (fun z => c71 (hu68.1.mpr z)))) (by exact hu68.2)
            · refine M.iconst (pc := 50) dX0_partsEnough_50 ?_
              exact EI (true, N2) _ _ _ _ dX0_partsEnough_51 (Or.inr ⟨rfl, by first | exact Or.inl rfl | exact Or.inr rfl | exact pI_01 _⟩) (rfl) (rfl) (⟨⟨fun _ => OKP.of hS hM.1 hx (by rw [← hwb.2 c47]; exact hok), fun _ => rfl⟩, hN2⟩)
  rw [show u * 13 = u * 13 + 0 by omega]
  exact L6 _ (j := 0) (by first | assumption | omega) (by intro i _ h; omega) (by first | assumption | omega) (Nat.lt_succ_self _)
set_option maxHeartbeats 4000000 in
set_option maxRecDepth 100000 in
theorem c_X0_isEnough_4 {l : Launch} {G : GT} {t aL aU aP aK aN aH : Nat} {cu cp : Int} {cb : Bool} {wP : Int → Int} {wN : Int → Int} {U : Int → Int} {H : Int → Int → Int} {n : Int} {vt : Int → Prop} {S q : Int} (hn : 0 ≤ n ∧ n ≤ 6) (hE : TBE n vt H cu U wP) (hS : 0 ≤ S ∧ S < 8192) (hM : MGD n vt H S) (hq : 0 ≤ q ∧ q ≤ 4) (hN : KN n vt H wN) : Con l G yX0_isEnough cX0_isEnough 7 (some .boolean) { frames := 8, cells := 0, slots := 0, locals := 208 } [.ref t, .int (iI S), .int (iI q)] [(t, eO 0 [.ref aL, .ref aU, .ref aP, .ref aK, .ref aN, .ref aH, .int (iI cu), .int (iI cp), .int (iI (pI (cb = true)))]), (aP, eI G 1664 wP), (aN, eI G 8192 wN)] (S := Bool × (Int → Int)) (fun u => some (.int (iI (pI (u.1 = true))))) (fun u => [(t, eO 0 [.ref aL, .ref aU, .ref aP, .ref aK, .ref aN, .ref aH, .int (iI cu), .int (iI cp), .int (iI (pI (cb = true)))]), (aP, eI G 1664 wP), (aN, eI G 8192 u.2)]) (fun u => (u.1 = true ↔ NL vt H q.toNat S) ∧ KN n vt H u.2) := by
  refine Con.mk (by decide +kernel) [some (.ref t), some (.int (iI S)), some (.int (iI q)), none, none, none, none] rfl (Nat.le_of_ble_eq_true rfl) rfl ?_
  intro V M EI EL EV EA
  obtain ⟨h1a, h1b, h1c, h1d⟩ := one_ok hS
  have hkn := hN S hS hM
  have hkb := hkn.1
  have hEc := hE.1
  have hy0 : sub1 S = 0 → NL0 vt H S := fun z c d hc hd => by rw [h1c z c d hc hd]; exact fun _ _ => rfl
  have hn0 : sub1 S ≠ 0 → ¬ NL0 vt H S := fun z w => by
    obtain ⟨c, d, hc, hd, hcd⟩ := h1d z
    exact hcd (hM.2 c d hc hd (w c d hc hd))
  refine M.iloadn (pc := 0) 1 rfl rfl dX0_isEnough_0 ?_
  refine M.iloadn (pc := 1) 1 rfl rfl dX0_isEnough_1 ?_
  refine M.iconst (pc := 2) dX0_isEnough_2 ?_
  refine M.isub (pc := 3) dX0_isEnough_3 ?_
  refine M.iand (pc := 4) (h1a) dX0_isEnough_4 ?_
  refine M.if_ne (pc := 5) (tgt := 10) dX0_isEnough_5 (by decide) (by omega) (fun c5 => ?_) (fun c5 => ?_)
  · refine M.iloadn (pc := 10) 2 rfl rfl dX0_isEnough_10 ?_
    refine M.if_le (pc := 11) (tgt := 27) dX0_isEnough_11 (by decide) (by omega) (fun c11 => ?_) (fun c11 => ?_)
    · refine M.iconst (pc := 27) dX0_isEnough_27 ?_
      exact EI (false, wN) _ _ _ _ dX0_isEnough_28 (Or.inr ⟨rfl, by first | exact Or.inl rfl | exact Or.inr rfl | exact pI_01 _⟩) (rfl) (rfl) (⟨⟨fun z => absurd (show false = true from z) (by decide), fun z => absurd (show NL vt H 0 S by rw [show q.toNat = 0 by omega] at z; exact z) (hn0 c5)⟩, hN⟩)
    · refine M.iloadn (pc := 14) 1 rfl rfl dX0_isEnough_14 ?_
      refine M.if_lt (pc := 15) (tgt := 27) dX0_isEnough_15 (by decide) (by omega) (fun c15 => ?_) (fun c15 => ?_)
      · exact absurd c15 (by omega)
      · refine M.iloadn (pc := 18) 1 rfl rfl dX0_isEnough_18 ?_
        refine M.aloadn (pc := 19) 0 rfl rfl dX0_isEnough_19 ?_
        refine M.getf (pc := 20) fg_X0_25 0 rfl rfl dX0_isEnough_20 ?_
        refine M.alenI (pc := 23) 2 rfl dX0_isEnough_23 ?_
        refine M.icmp_lt (pc := 24) (tgt := 29) dX0_isEnough_24 (by decide) (by omega) (by omega) (fun c24 => ?_) (fun c24 => ?_)
        · refine M.aloadn (pc := 29) 0 rfl rfl dX0_isEnough_29 ?_
          refine M.getf (pc := 30) fg_X0_25 0 rfl rfl dX0_isEnough_30 ?_
          refine M.iloadn (pc := 33) 1 rfl rfl dX0_isEnough_33 ?_
          refine M.iald (pc := 34) 2 rfl (by omega) (by omega) dX0_isEnough_34 ?_
          refine M.bipush (pc := 35) (by decide +kernel) dX0_isEnough_35 ?_
          refine M.iand (pc := 37) (and15 (by omega)) dX0_isEnough_37 ?_
          refine M.istoren (pc := 38) 3 rfl (Nat.le_of_ble_eq_true rfl) rfl dX0_isEnough_38 ?_
          dsimp only [List.set_cons_zero, List.set_cons_succ]
          refine M.aloadn (pc := 39) 0 rfl rfl dX0_isEnough_39 ?_
          refine M.getf (pc := 40) fg_X0_25 0 rfl rfl dX0_isEnough_40 ?_
          refine M.iloadn (pc := 43) 1 rfl rfl dX0_isEnough_43 ?_
          refine M.iald (pc := 44) 2 rfl (by omega) (by omega) dX0_isEnough_44 ?_
          refine M.iconst (pc := 45) dX0_isEnough_45 ?_
          refine M.ishr (pc := 46) (shr4 (by omega) (by omega)) dX0_isEnough_46 ?_
          refine M.istore (pc := 47) (i := 4) (Nat.le_of_ble_eq_true rfl) rfl dX0_isEnough_47 ?_
          dsimp only [List.set_cons_zero, List.set_cons_succ]
          have L75 : ∀ {r : Bool}, (r = true ↔ NL vt H q.toNat S) → V 0 0 75 [(t, eO 0 [.ref aL, .ref aU, .ref aP, .ref aK, .ref aN, .ref aH, .int (iI cu), .int (iI cp), .int (iI (pI (cb = true)))]), (aP, eI G 1664 wP), (aN, eI G 8192 wN)] [some (.ref t), none, none, none, none, none, none] [.int (iI (pI (r = true)))] := by
            intro r hr
            exact EI (r, wN) _ _ _ _ dX0_isEnough_75 (Or.inr ⟨rfl, by first | exact Or.inl rfl | exact Or.inr rfl | exact pI_01 _⟩) (rfl) (rfl) (⟨hr, hN⟩)
          refine M.iloadn (pc := 49) 2 rfl rfl dX0_isEnough_49 ?_
          refine M.iloadn (pc := 50) 3 rfl rfl dX0_isEnough_50 ?_
          refine M.icmp_le (pc := 51) (tgt := 65) dX0_isEnough_51 (by decide) (by omega) (by omega) (fun c51 => ?_) (fun c51 => ?_)
          · refine M.iloadn (pc := 65) 2 rfl rfl dX0_isEnough_65 ?_
            refine M.iloadn (pc := 66) 3 rfl rfl dX0_isEnough_66 ?_
            refine M.icmp_le (pc := 67) (tgt := 74) dX0_isEnough_67 (by decide) (by omega) (by omega) (fun c67 => ?_) (fun c67 => ?_)
            · refine M.iconst (pc := 74) dX0_isEnough_74 ?_
              refine M.forget 1 ?_
              dsimp only [List.set_cons_zero, List.set_cons_succ]
              refine M.forget 2 ?_
              dsimp only [List.set_cons_zero, List.set_cons_succ]
              refine M.forget 3 ?_
              dsimp only [List.set_cons_zero, List.set_cons_succ]
              refine M.forget 4 ?_
              dsimp only [List.set_cons_zero, List.set_cons_succ]
              exact L75 (r := false) (by exact ⟨fun z => absurd z (by decide), fun z => absurd (NL.up (by omega) z) (hkn.2.1 (by omega))⟩)
            · refine M.iconst (pc := 70) dX0_isEnough_70 ?_
              refine M.goto (pc := 71) (tgt := 75) dX0_isEnough_71 (by decide) ?_
              refine M.forget 1 ?_
              dsimp only [List.set_cons_zero, List.set_cons_succ]
              refine M.forget 2 ?_
              dsimp only [List.set_cons_zero, List.set_cons_succ]
              refine M.forget 3 ?_
              dsimp only [List.set_cons_zero, List.set_cons_succ]
              refine M.forget 4 ?_
              dsimp only [List.set_cons_zero, List.set_cons_succ]
              exact L75 (r := true) (by exact ⟨fun _ => (by first | exact absurd c51 (by omega) | exact (hkn.2.2 c56).up (by omega)), fun _ => rfl⟩)
          · refine M.iload (pc := 54) (i := 4) rfl dX0_isEnough_54 ?_
            refine M.if_eq (pc := 56) (tgt := 76) dX0_isEnough_56 (by decide) (by omega) (fun c56 => ?_) (fun c56 => ?_)
            · refine M.iconst (pc := 76) dX0_isEnough_76 ?_
              refine M.istore (pc := 77) (i := 5) (Nat.le_of_ble_eq_true rfl) rfl dX0_isEnough_77 ?_
              dsimp only [List.set_cons_zero, List.set_cons_succ]
              refine M.iconst (pc := 79) dX0_isEnough_79 ?_
              refine M.istore (pc := 80) (i := 6) (Nat.le_of_ble_eq_true rfl) rfl dX0_isEnough_80 ?_
              dsimp only [List.set_cons_zero, List.set_cons_succ]
              have L82 : ∀ (fu : Nat) {f : Bool} {u : Int} {N2 : Int → Int}, (0 ≤ u ∧ u ≤ cu) → ((f = true → NL vt H q.toNat S) ∧ (f = false → ∀ v, 0 ≤ v → v < u → ¬ OKP vt H (U v) S (q - 1).toNat)) → (KN n vt H N2) → (cu - u).toNat < fu → V 0 0 82 [(t, eO 0 [.ref aL, .ref aU, .ref aP, .ref aK, .ref aN, .ref aH, .int (iI cu), .int (iI cp), .int (iI (pI (cb = true)))]), (aP, eI G 1664 wP), (aN, eI G 8192 N2)] [some (.ref t), some (.int (iI S)), some (.int (iI q)), some (.int (iI (wN S % 16))), some (.int (iI (wN S / 16))), some (.int (iI (pI (f = true)))), some (.int (iI u))] [] := by
                intro fu
                induction fu with
                | zero => intro f u N2 hu hf hN2 hm; exact absurd hm (Nat.not_lt_zero _)
                | succ fu ih82 =>
                  intro f u N2 hu hf hN2 hm82
                  refine M.iload (pc := 82) (i := 5) rfl dX0_isEnough_82 ?_
                  have L114 : (f = true ↔ NL vt H q.toNat S) → V 0 0 114 [(t, eO 0 [.ref aL, .ref aU, .ref aP, .ref aK, .ref aN, .ref aH, .int (iI cu), .int (iI cp), .int (iI (pI (cb = true)))]), (aP, eI G 1664 wP), (aN, eI G 8192 N2)] [some (.ref t), some (.int (iI S)), some (.int (iI q)), some (.int (iI (wN S % 16))), some (.int (iI (wN S / 16))), some (.int (iI (pI (f = true)))), some (.int (iI u))] [] := by
                    intro  hfin
                    refine M.aloadn (pc := 114) 0 rfl rfl dX0_isEnough_114 ?_
                    refine M.getf (pc := 115) fg_X0_25 0 rfl rfl dX0_isEnough_115 ?_
                    have L138 : ∀ {val : Int}, (KN n vt H (upZ N2 S val)) → V 0 0 138 [(t, eO 0 [.ref aL, .ref aU, .ref aP, .ref aK, .ref aN, .ref aH, .int (iI cu), .int (iI cp), .int (iI (pI (cb = true)))]), (aP, eI G 1664 wP), (aN, eI G 8192 N2)] [some (.ref t), some (.int (iI S)), some (.int (iI q)), some (.int (iI (wN S % 16))), some (.int (iI (wN S / 16))), some (.int (iI (pI (f = true)))), some (.int (iI u))] [.int (iI val), .int (iI S), .ref aN] := by
                      intro val hval
                      refine M.iast (pc := 138) 2 rfl (by omega) (by omega) dX0_isEnough_138 ?_
                      dsimp only [List.set_cons_zero, List.set_cons_succ]
                      refine M.iload (pc := 139) (i := 5) rfl dX0_isEnough_139 ?_
                      exact EI (f, upZ N2 S val) _ _ _ _ dX0_isEnough_141 (Or.inr ⟨rfl, by first | exact Or.inl rfl | exact Or.inr rfl | exact pI_01 _⟩) (rfl) (rfl) (⟨hfin, hval⟩)
                    refine M.iloadn (pc := 118) 1 rfl rfl dX0_isEnough_118 ?_
                    refine M.iload (pc := 119) (i := 5) rfl dX0_isEnough_119 ?_
                    refine M.if_eqP (pc := 121) (tgt := 132) dX0_isEnough_121 (by decide) (fun c121 => ?_) (fun c121 => ?_)
                    · refine M.iloadn (pc := 132) 2 rfl rfl dX0_isEnough_132 ?_
                      refine M.iload (pc := 133) (i := 4) rfl dX0_isEnough_133 ?_
                      refine M.iconst (pc := 135) dX0_isEnough_135 ?_
                      refine M.ishl (pc := 136) (sh4 (by omega)) dX0_isEnough_136 ?_
                      refine M.ior (pc := 137) (or4 (by omega) (by omega)) dX0_isEnough_137 ?_
                      have e1 : (q + wN S / 16 * 16) % 16 = q := by omega
                      have e2 : (q + wN S / 16 * 16) / 16 = wN S / 16 := by omega
                      exact L138  (by exact hN2.up (by rw [e1, e2]; omega) (by rw [e1]; exact fun _ z => c121 (hfin.mpr z)) (by rw [e2]; exact hkn.2.2))
                    · refine M.iloadn (pc := 124) 3 rfl rfl dX0_isEnough_124 ?_
                      refine M.iloadn (pc := 125) 2 rfl rfl dX0_isEnough_125 ?_
                      refine M.iconst (pc := 126) dX0_isEnough_126 ?_
                      refine M.ishl (pc := 127) (sh4 (by omega)) dX0_isEnough_127 ?_
                      refine M.ior (pc := 128) (or4 (by omega) (by omega)) dX0_isEnough_128 ?_
                      refine M.goto (pc := 129) (tgt := 138) dX0_isEnough_129 (by decide) ?_
                      have e1 : (wN S % 16 + q * 16) % 16 = wN S % 16 := by omega
                      have e2 : (wN S % 16 + q * 16) / 16 = q := by omega
                      exact L138  (by exact hN2.up (by rw [e1, e2]; omega) (by rw [e1]; exact hkn.2.1) (by rw [e2]; exact fun _ => hfin.mp c121))
                  refine M.if_neP (pc := 84) (tgt := 114) dX0_isEnough_84 (by decide) (fun c84 => ?_) (fun c84 => ?_)
                  · exact L114  (by exact ⟨fun _ => hf.1 c84, fun _ => c84⟩)
                  · refine M.iload (pc := 87) (i := 6) rfl dX0_isEnough_87 ?_
                    refine M.aloadn (pc := 89) 0 rfl rfl dX0_isEnough_89 ?_
                    refine M.getf (pc := 90) fg_X0_43 0 rfl rfl dX0_isEnough_90 ?_
                    refine M.icmp_ge (pc := 93) (tgt := 114) dX0_isEnough_93 (by decide) (by omega) (by omega) (fun c93 => ?_) (fun c93 => ?_)
                    · exact L114  (by exact ⟨fun z => absurd z c84, fun z => absurd (NL.okp (by omega) (hn0 c5) z) (fun ⟨s, h1, h2⟩ => (hE.cov hn hM.1 h1 h2).elim (fun v hv => hf.2 (Bool.eq_false_iff.mpr c84) v hv.1.1 (by omega) hv.2.2))⟩)
                    · refine M.aloadn (pc := 96) 0 rfl rfl dX0_isEnough_96 ?_
                      refine M.iload (pc := 97) (i := 6) rfl dX0_isEnough_97 ?_
                      refine M.iloadn (pc := 99) 1 rfl rfl dX0_isEnough_99 ?_
                      refine M.iloadn (pc := 100) 2 rfl rfl dX0_isEnough_100 ?_
                      refine M.iconst (pc := 101) dX0_isEnough_101 ?_
                      refine M.isub (pc := 102) dX0_isEnough_102 ?_
                      refine M.mS (pc := 103) (c_X0_partsEnough_3 (n := n) (U := U) (H := H) (vt := vt) (by first | assumption | omega) (by exact hE) (by exact hS) (by exact hM) (by omega) (by exact hN2) (by omega)) ms_X0_118 [0, 1, 2] rfl rfl rfl rfl (Nat.le_of_ble_eq_true rfl) rfl ⟨(Nat.le_of_ble_eq_true rfl), (Nat.le_of_ble_eq_true rfl)⟩ ⟨(Nat.le_of_ble_eq_true rfl), (Nat.le_of_ble_eq_true rfl)⟩ rfl (fun _ => rfl) dX0_isEnough_103 (fun u103 hu103 => ?_)
                      obtain ⟨r103, N103⟩ := u103
                      dsimp only [putL, List.set_cons_zero, List.set_cons_succ, Option.toList, List.cons_append, List.nil_append] at hu103 ⊢
                      refine M.istore (pc := 106) (i := 5) (Nat.le_of_ble_eq_true rfl) rfl dX0_isEnough_106 ?_
                      dsimp only [List.set_cons_zero, List.set_cons_succ]
                      refine M.iinc (pc := 108) (i := 6) rfl rfl dX0_isEnough_108 ?_
                      dsimp only [List.set_cons_zero, List.set_cons_succ]
                      refine M.goto (pc := 111) (tgt := 82) dX0_isEnough_111 (by decide) ?_
                      exact ih82  (by first | assumption | omega) (by exact ⟨fun z => OKP.nl (by omega) (hE.2.1 u hu.1 (by omega)).1 (hu103.1.mp z), fun z v h0 h1 => (by omega : v < u ∨ v = u).elim (fun w => hf.2 (Bool.eq_false_iff.mpr c84) v h0 w) (fun w y => absurd (hu103.1.mpr (by rw [← w]; exact y)) (by show ¬ r103 = true; rw [show r103 = false from z]; decide))⟩) (by exact hu103.2) (by omega)
              exact L82 _ (f := false) (by first | assumption | omega) (by exact ⟨fun z => absurd z (by decide), fun _ v _ h => by omega⟩) (by first | assumption | omega) (Nat.lt_succ_self _)
            · refine M.iloadn (pc := 59) 2 rfl rfl dX0_isEnough_59 ?_
              refine M.iload (pc := 60) (i := 4) rfl dX0_isEnough_60 ?_
              refine M.icmp_lt (pc := 62) (tgt := 76) dX0_isEnough_62 (by decide) (by omega) (by omega) (fun c62 => ?_) (fun c62 => ?_)
              · refine M.iconst (pc := 76) dX0_isEnough_76 ?_
                refine M.istore (pc := 77) (i := 5) (Nat.le_of_ble_eq_true rfl) rfl dX0_isEnough_77 ?_
                dsimp only [List.set_cons_zero, List.set_cons_succ]
                refine M.iconst (pc := 79) dX0_isEnough_79 ?_
                refine M.istore (pc := 80) (i := 6) (Nat.le_of_ble_eq_true rfl) rfl dX0_isEnough_80 ?_
                dsimp only [List.set_cons_zero, List.set_cons_succ]
                have L82 : ∀ (fu : Nat) {f : Bool} {u : Int} {N2 : Int → Int}, (0 ≤ u ∧ u ≤ cu) → ((f = true → NL vt H q.toNat S) ∧ (f = false → ∀ v, 0 ≤ v → v < u → ¬ OKP vt H (U v) S (q - 1).toNat)) → (KN n vt H N2) → (cu - u).toNat < fu → V 0 0 82 [(t, eO 0 [.ref aL, .ref aU, .ref aP, .ref aK, .ref aN, .ref aH, .int (iI cu), .int (iI cp), .int (iI (pI (cb = true)))]), (aP, eI G 1664 wP), (aN, eI G 8192 N2)] [some (.ref t), some (.int (iI S)), some (.int (iI q)), some (.int (iI (wN S % 16))), some (.int (iI (wN S / 16))), some (.int (iI (pI (f = true)))), some (.int (iI u))] [] := by
                  intro fu
                  induction fu with
                  | zero => intro f u N2 hu hf hN2 hm; exact absurd hm (Nat.not_lt_zero _)
                  | succ fu ih82 =>
                    intro f u N2 hu hf hN2 hm82
                    refine M.iload (pc := 82) (i := 5) rfl dX0_isEnough_82 ?_
                    have L114 : (f = true ↔ NL vt H q.toNat S) → V 0 0 114 [(t, eO 0 [.ref aL, .ref aU, .ref aP, .ref aK, .ref aN, .ref aH, .int (iI cu), .int (iI cp), .int (iI (pI (cb = true)))]), (aP, eI G 1664 wP), (aN, eI G 8192 N2)] [some (.ref t), some (.int (iI S)), some (.int (iI q)), some (.int (iI (wN S % 16))), some (.int (iI (wN S / 16))), some (.int (iI (pI (f = true)))), some (.int (iI u))] [] := by
                      intro  hfin
                      refine M.aloadn (pc := 114) 0 rfl rfl dX0_isEnough_114 ?_
                      refine M.getf (pc := 115) fg_X0_25 0 rfl rfl dX0_isEnough_115 ?_
                      have L138 : ∀ {val : Int}, (KN n vt H (upZ N2 S val)) → V 0 0 138 [(t, eO 0 [.ref aL, .ref aU, .ref aP, .ref aK, .ref aN, .ref aH, .int (iI cu), .int (iI cp), .int (iI (pI (cb = true)))]), (aP, eI G 1664 wP), (aN, eI G 8192 N2)] [some (.ref t), some (.int (iI S)), some (.int (iI q)), some (.int (iI (wN S % 16))), some (.int (iI (wN S / 16))), some (.int (iI (pI (f = true)))), some (.int (iI u))] [.int (iI val), .int (iI S), .ref aN] := by
                        intro val hval
                        refine M.iast (pc := 138) 2 rfl (by omega) (by omega) dX0_isEnough_138 ?_
                        dsimp only [List.set_cons_zero, List.set_cons_succ]
                        refine M.iload (pc := 139) (i := 5) rfl dX0_isEnough_139 ?_
                        exact EI (f, upZ N2 S val) _ _ _ _ dX0_isEnough_141 (Or.inr ⟨rfl, by first | exact Or.inl rfl | exact Or.inr rfl | exact pI_01 _⟩) (rfl) (rfl) (⟨hfin, hval⟩)
                      refine M.iloadn (pc := 118) 1 rfl rfl dX0_isEnough_118 ?_
                      refine M.iload (pc := 119) (i := 5) rfl dX0_isEnough_119 ?_
                      refine M.if_eqP (pc := 121) (tgt := 132) dX0_isEnough_121 (by decide) (fun c121 => ?_) (fun c121 => ?_)
                      · refine M.iloadn (pc := 132) 2 rfl rfl dX0_isEnough_132 ?_
                        refine M.iload (pc := 133) (i := 4) rfl dX0_isEnough_133 ?_
                        refine M.iconst (pc := 135) dX0_isEnough_135 ?_
                        refine M.ishl (pc := 136) (sh4 (by omega)) dX0_isEnough_136 ?_
                        refine M.ior (pc := 137) (or4 (by omega) (by omega)) dX0_isEnough_137 ?_
                        have e1 : (q + wN S / 16 * 16) % 16 = q := by omega
                        have e2 : (q + wN S / 16 * 16) / 16 = wN S / 16 := by omega
                        exact L138  (by exact hN2.up (by rw [e1, e2]; omega) (by rw [e1]; exact fun _ z => c121 (hfin.mpr z)) (by rw [e2]; exact hkn.2.2))
                      · refine M.iloadn (pc := 124) 3 rfl rfl dX0_isEnough_124 ?_
                        refine M.iloadn (pc := 125) 2 rfl rfl dX0_isEnough_125 ?_
                        refine M.iconst (pc := 126) dX0_isEnough_126 ?_
                        refine M.ishl (pc := 127) (sh4 (by omega)) dX0_isEnough_127 ?_
                        refine M.ior (pc := 128) (or4 (by omega) (by omega)) dX0_isEnough_128 ?_
                        refine M.goto (pc := 129) (tgt := 138) dX0_isEnough_129 (by decide) ?_
                        have e1 : (wN S % 16 + q * 16) % 16 = wN S % 16 := by omega
                        have e2 : (wN S % 16 + q * 16) / 16 = q := by omega
                        exact L138  (by exact hN2.up (by rw [e1, e2]; omega) (by rw [e1]; exact hkn.2.1) (by rw [e2]; exact fun _ => hfin.mp c121))
                    refine M.if_neP (pc := 84) (tgt := 114) dX0_isEnough_84 (by decide) (fun c84 => ?_) (fun c84 => ?_)
                    · exact L114  (by exact ⟨fun _ => hf.1 c84, fun _ => c84⟩)
                    · refine M.iload (pc := 87) (i := 6) rfl dX0_isEnough_87 ?_
                      refine M.aloadn (pc := 89) 0 rfl rfl dX0_isEnough_89 ?_
                      refine M.getf (pc := 90) fg_X0_43 0 rfl rfl dX0_isEnough_90 ?_
                      refine M.icmp_ge (pc := 93) (tgt := 114) dX0_isEnough_93 (by decide) (by omega) (by omega) (fun c93 => ?_) (fun c93 => ?_)
                      · exact L114  (by exact ⟨fun z => absurd z c84, fun z => absurd (NL.okp (by omega) (hn0 c5) z) (fun ⟨s, h1, h2⟩ => (hE.cov hn hM.1 h1 h2).elim (fun v hv => hf.2 (Bool.eq_false_iff.mpr c84) v hv.1.1 (by omega) hv.2.2))⟩)
                      · refine M.aloadn (pc := 96) 0 rfl rfl dX0_isEnough_96 ?_
                        refine M.iload (pc := 97) (i := 6) rfl dX0_isEnough_97 ?_
                        refine M.iloadn (pc := 99) 1 rfl rfl dX0_isEnough_99 ?_
                        refine M.iloadn (pc := 100) 2 rfl rfl dX0_isEnough_100 ?_
                        refine M.iconst (pc := 101) dX0_isEnough_101 ?_
                        refine M.isub (pc := 102) dX0_isEnough_102 ?_
                        refine M.mS (pc := 103) (c_X0_partsEnough_3 (n := n) (U := U) (H := H) (vt := vt) (by first | assumption | omega) (by exact hE) (by exact hS) (by exact hM) (by omega) (by exact hN2) (by omega)) ms_X0_118 [0, 1, 2] rfl rfl rfl rfl (Nat.le_of_ble_eq_true rfl) rfl ⟨(Nat.le_of_ble_eq_true rfl), (Nat.le_of_ble_eq_true rfl)⟩ ⟨(Nat.le_of_ble_eq_true rfl), (Nat.le_of_ble_eq_true rfl)⟩ rfl (fun _ => rfl) dX0_isEnough_103 (fun u103 hu103 => ?_)
                        obtain ⟨r103, N103⟩ := u103
                        dsimp only [putL, List.set_cons_zero, List.set_cons_succ, Option.toList, List.cons_append, List.nil_append] at hu103 ⊢
                        refine M.istore (pc := 106) (i := 5) (Nat.le_of_ble_eq_true rfl) rfl dX0_isEnough_106 ?_
                        dsimp only [List.set_cons_zero, List.set_cons_succ]
                        refine M.iinc (pc := 108) (i := 6) rfl rfl dX0_isEnough_108 ?_
                        dsimp only [List.set_cons_zero, List.set_cons_succ]
                        refine M.goto (pc := 111) (tgt := 82) dX0_isEnough_111 (by decide) ?_
                        exact ih82  (by first | assumption | omega) (by exact ⟨fun z => OKP.nl (by omega) (hE.2.1 u hu.1 (by omega)).1 (hu103.1.mp z), fun z v h0 h1 => (by omega : v < u ∨ v = u).elim (fun w => hf.2 (Bool.eq_false_iff.mpr c84) v h0 w) (fun w y => absurd (hu103.1.mpr (by rw [← w]; exact y)) (by show ¬ r103 = true; rw [show r103 = false from z]; decide))⟩) (by exact hu103.2) (by omega)
                exact L82 _ (f := false) (by first | assumption | omega) (by exact ⟨fun z => absurd z (by decide), fun _ v _ h => by omega⟩) (by first | assumption | omega) (Nat.lt_succ_self _)
              · refine M.iloadn (pc := 65) 2 rfl rfl dX0_isEnough_65 ?_
                refine M.iloadn (pc := 66) 3 rfl rfl dX0_isEnough_66 ?_
                refine M.icmp_le (pc := 67) (tgt := 74) dX0_isEnough_67 (by decide) (by omega) (by omega) (fun c67 => ?_) (fun c67 => ?_)
                · refine M.iconst (pc := 74) dX0_isEnough_74 ?_
                  refine M.forget 1 ?_
                  dsimp only [List.set_cons_zero, List.set_cons_succ]
                  refine M.forget 2 ?_
                  dsimp only [List.set_cons_zero, List.set_cons_succ]
                  refine M.forget 3 ?_
                  dsimp only [List.set_cons_zero, List.set_cons_succ]
                  refine M.forget 4 ?_
                  dsimp only [List.set_cons_zero, List.set_cons_succ]
                  exact L75 (r := false) (by exact ⟨fun z => absurd z (by decide), fun z => absurd (NL.up (by omega) z) (hkn.2.1 (by omega))⟩)
                · refine M.iconst (pc := 70) dX0_isEnough_70 ?_
                  refine M.goto (pc := 71) (tgt := 75) dX0_isEnough_71 (by decide) ?_
                  refine M.forget 1 ?_
                  dsimp only [List.set_cons_zero, List.set_cons_succ]
                  refine M.forget 2 ?_
                  dsimp only [List.set_cons_zero, List.set_cons_succ]
                  refine M.forget 3 ?_
                  dsimp only [List.set_cons_zero, List.set_cons_succ]
                  refine M.forget 4 ?_
                  dsimp only [List.set_cons_zero, List.set_cons_succ]
                  exact L75 (r := true) (by exact ⟨fun _ => (by first | exact absurd c51 (by omega) | exact (hkn.2.2 c56).up (by omega)), fun _ => rfl⟩)
        · exact absurd c24 (by omega)
  · refine M.iconst (pc := 8) dX0_isEnough_8 ?_
    exact EI (true, wN) _ _ _ _ dX0_isEnough_9 (Or.inr ⟨rfl, by first | exact Or.inl rfl | exact Or.inr rfl | exact pI_01 _⟩) (rfl) (rfl) (⟨⟨fun _ => NL.up (Nat.zero_le _) (show NL vt H 0 S from hy0 c5), fun _ => rfl⟩, hN⟩)
set_option maxHeartbeats 4000000 in
set_option maxRecDepth 100000 in
theorem c_X0_partsEnough_4 {l : Launch} {G : GT} {t aL aU aP aK aN aH : Nat} {cu cp : Int} {cb : Bool} {wP : Int → Int} {wN : Int → Int} {U : Int → Int} {H : Int → Int → Int} {n : Int} {vt : Int → Prop} {u S q : Int} (hn : 0 ≤ n ∧ n ≤ 6) (hE : TBE n vt H cu U wP) (hS : 0 ≤ S ∧ S < 8192) (hM : MGD n vt H S) (hq : 0 ≤ q ∧ q ≤ 4) (hN : KN n vt H wN) (hu : 0 ≤ u ∧ u < cu) : Con l G yX0_partsEnough cX0_partsEnough 7 (some .boolean) { frames := 9, cells := 0, slots := 0, locals := 234 } [.ref t, .int (iI u), .int (iI S), .int (iI q)] [(t, eO 0 [.ref aL, .ref aU, .ref aP, .ref aK, .ref aN, .ref aH, .int (iI cu), .int (iI cp), .int (iI (pI (cb = true)))]), (aP, eI G 1664 wP), (aN, eI G 8192 wN)] (S := Bool × (Int → Int)) (fun u => some (.int (iI (pI (u.1 = true))))) (fun u => [(t, eO 0 [.ref aL, .ref aU, .ref aP, .ref aK, .ref aN, .ref aH, .int (iI cu), .int (iI cp), .int (iI (pI (cb = true)))]), (aP, eI G 1664 wP), (aN, eI G 8192 u.2)]) (fun x => (x.1 = true ↔ OKP vt H (U u) S q.toNat) ∧ KN n vt H x.2) := by
  refine Con.mk (by decide +kernel) [some (.ref t), some (.int (iI u)), some (.int (iI S)), some (.int (iI q)), none, none, none] rfl (Nat.le_of_ble_eq_true rfl) rfl ?_
  intro V M EI EL EV EA
  have hEc := hE.1
  obtain ⟨hvt, J, hJ, hj, hz, hx⟩ := hE.2.1 u hu.1 hu.2
  refine M.iloadn (pc := 0) 1 rfl rfl dX0_partsEnough_0 ?_
  refine M.bipush (pc := 1) (by decide +kernel) dX0_partsEnough_1 ?_
  refine M.imul (pc := 3) dX0_partsEnough_3 ?_
  refine M.istore (pc := 4) (i := 4) (Nat.le_of_ble_eq_true rfl) rfl dX0_partsEnough_4 ?_
  dsimp only [List.set_cons_zero, List.set_cons_succ]
  have L6 : ∀ (fu : Nat) {j : Int} {N2 : Int → Int}, (0 ≤ j ∧ j ≤ J) → (∀ i, 0 ≤ i → i < j → land S (wP (u * 13 + i)) ≠ S ∧ NL vt H q.toNat (land S (wP (u * 13 + i)))) → (KN n vt H N2) → (13 - j).toNat < fu → V 0 0 6 [(t, eO 0 [.ref aL, .ref aU, .ref aP, .ref aK, .ref aN, .ref aH, .int (iI cu), .int (iI cp), .int (iI (pI (cb = true)))]), (aP, eI G 1664 wP), (aN, eI G 8192 N2)] [some (.ref t), some (.int (iI u)), some (.int (iI S)), some (.int (iI q)), some (.int (iI (u * 13 + j))), none, none] [] := by
    intro fu
    induction fu with
    | zero => intro j N2 hjj hok hN2 hm; exact absurd hm (Nat.not_lt_zero _)
    | succ fu ih6 =>
      intro j N2 hjj hok hN2 hm6
      refine M.iload (pc := 6) (i := 4) rfl dX0_partsEnough_6 ?_
      refine M.iloadn (pc := 8) 1 rfl rfl dX0_partsEnough_8 ?_
      refine M.iconst (pc := 9) dX0_partsEnough_9 ?_
      refine M.iadd (pc := 10) dX0_partsEnough_10 ?_
      refine M.bipush (pc := 11) (by decide +kernel) dX0_partsEnough_11 ?_
      refine M.imul (pc := 13) dX0_partsEnough_13 ?_
      refine M.icmp_ge (pc := 14) (tgt := 82) dX0_partsEnough_14 (by decide) (by omega) (by omega) (fun c14 => ?_) (fun c14 => ?_)
      · refine M.iconst (pc := 82) dX0_partsEnough_82 ?_
        exact EI (true, N2) _ _ _ _ dX0_partsEnough_83 (Or.inr ⟨rfl, by first | exact Or.inl rfl | exact Or.inr rfl | exact pI_01 _⟩) (rfl) (rfl) (⟨⟨fun _ => OKP.of hS hM.1 hx (by rw [show J = j by omega]; exact hok), fun _ => rfl⟩, hN2⟩)
      · refine M.iload (pc := 17) (i := 4) rfl dX0_partsEnough_17 ?_
        refine M.if_lt (pc := 19) (tgt := 42) dX0_partsEnough_19 (by decide) (by omega) (fun c19 => ?_) (fun c19 => ?_)
        · exact absurd c19 (by omega)
        · refine M.iload (pc := 22) (i := 4) rfl dX0_partsEnough_22 ?_
          refine M.aloadn (pc := 24) 0 rfl rfl dX0_partsEnough_24 ?_
          refine M.getf (pc := 25) fg_X0_19 0 rfl rfl dX0_partsEnough_25 ?_
          refine M.alenI (pc := 28) 1 rfl dX0_partsEnough_28 ?_
          refine M.icmp_ge (pc := 29) (tgt := 42) dX0_partsEnough_29 (by decide) (by omega) (by omega) (fun c29 => ?_) (fun c29 => ?_)
          · exact absurd c29 (by omega)
          · refine M.aloadn (pc := 32) 0 rfl rfl dX0_partsEnough_32 ?_
            refine M.getf (pc := 33) fg_X0_19 0 rfl rfl dX0_partsEnough_33 ?_
            refine M.iload (pc := 36) (i := 4) rfl dX0_partsEnough_36 ?_
            refine M.iald (pc := 38) 1 rfl (by omega) (by omega) dX0_partsEnough_38 ?_
            refine M.goto (pc := 39) (tgt := 43) dX0_partsEnough_39 (by decide) ?_
            refine M.istore (pc := 43) (i := 5) (Nat.le_of_ble_eq_true rfl) rfl dX0_partsEnough_43 ?_
            dsimp only [List.set_cons_zero, List.set_cons_succ]
            have hwb : (0 ≤ wP (u * 13 + j) ∧ wP (u * 13 + j) < 8192) ∧ (wP (u * 13 + j) = 0 → j = J) := by
              rcases (by omega : j < J ∨ j = J) with w | w
              · obtain ⟨h1, x, h2, h3⟩ := hj j hjj.1 w
                have h4 : 0 ≤ PT H (U u) (cm (prB n) 13) x ∧ PT H (U u) (cm (prB n) 13) x < 8192 := cm_13b _
                exact ⟨by rw [h3]; exact h4, fun z => absurd z h1⟩
              · have h5 := hz (by omega)
                rw [w, h5]
                exact ⟨by omega, fun _ => rfl⟩
            refine M.iload (pc := 45) (i := 5) rfl dX0_partsEnough_45 ?_
            refine M.if_ne (pc := 47) (tgt := 52) dX0_partsEnough_47 (by decide) (by omega) (fun c47 => ?_) (fun c47 => ?_)
            · have hjJ : j < J := by
                rcases (by omega : j < J ∨ j = J) with w | w
                · exact w
                · exact absurd (by rw [w]; exact hz (by omega)) c47
              have hll := land_b (a := S) (b := wP (u * 13 + j)) hS.1 hwb.1.1
              refine M.iloadn (pc := 52) 2 rfl rfl dX0_partsEnough_52 ?_
              refine M.iload (pc := 53) (i := 5) rfl dX0_partsEnough_53 ?_
              refine M.iand (pc := 55) (land_ok hS.1 hwb.1.1) dX0_partsEnough_55 ?_
              have L74 : ∀ {N3 : Int → Int}, (¬ OKP vt H (U u) S q.toNat) → (KN n vt H N3) → V 0 0 74 [(t, eO 0 [.ref aL, .ref aU, .ref aP, .ref aK, .ref aN, .ref aH, .int (iI cu), .int (iI cp), .int (iI (pI (cb = true)))]), (aP, eI G 1664 wP), (aN, eI G 8192 N3)] [some (.ref t), none, none, none, none, none, none] [] := by
                intro N3 hno hN3
                refine M.iconst (pc := 74) dX0_partsEnough_74 ?_
                exact EI (false, N3) _ _ _ _ dX0_partsEnough_75 (Or.inr ⟨rfl, by first | exact Or.inl rfl | exact Or.inr rfl | exact pI_01 _⟩) (rfl) (rfl) (⟨⟨fun z => absurd (show false = true from z) (by decide), fun z => absurd z hno⟩, hN3⟩)
              refine M.istore (pc := 56) (i := 6) (Nat.le_of_ble_eq_true rfl) rfl dX0_partsEnough_56 ?_
              dsimp only [List.set_cons_zero, List.set_cons_succ]
              refine M.iload (pc := 58) (i := 6) rfl dX0_partsEnough_58 ?_
              refine M.iloadn (pc := 60) 2 rfl rfl dX0_partsEnough_60 ?_
              refine M.icmp_eq (pc := 61) (tgt := 74) dX0_partsEnough_61 (by decide) (by omega) (by omega) (fun c61 => ?_) (fun c61 => ?_)
              · refine M.forget 1 ?_
                dsimp only [List.set_cons_zero, List.set_cons_succ]
                refine M.forget 2 ?_
                dsimp only [List.set_cons_zero, List.set_cons_succ]
                refine M.forget 3 ?_
                dsimp only [List.set_cons_zero, List.set_cons_succ]
                refine M.forget 4 ?_
                dsimp only [List.set_cons_zero, List.set_cons_succ]
                refine M.forget 5 ?_
                dsimp only [List.set_cons_zero, List.set_cons_succ]
                refine M.forget 6 ?_
                dsimp only [List.set_cons_zero, List.set_cons_succ]
                exact L74  (by exact OKP.no hS hM.1 (hj j hjj.1 hjJ).2 (Or.inl c61)) (by exact hN2)
              · refine M.aloadn (pc := 64) 0 rfl rfl dX0_partsEnough_64 ?_
                refine M.iload (pc := 65) (i := 6) rfl dX0_partsEnough_65 ?_
                refine M.iloadn (pc := 67) 3 rfl rfl dX0_partsEnough_67 ?_
                refine M.mS (pc := 68) (c_X0_isEnough_4 (n := n) (U := U) (H := H) (vt := vt) (by first | assumption | omega) (by exact hE) (by omega) (by exact hM.sub (fun d hd => (me_land hd).1)) (by exact hq) (by exact hN2)) ms_X0_114 [0, 1, 2] rfl rfl rfl rfl (Nat.le_of_ble_eq_true rfl) rfl ⟨(Nat.le_of_ble_eq_true rfl), (Nat.le_of_ble_eq_true rfl)⟩ ⟨(Nat.le_of_ble_eq_true rfl), (Nat.le_of_ble_eq_true rfl)⟩ rfl (fun _ => rfl) dX0_partsEnough_68 (fun u68 hu68 => ?_)
                obtain ⟨r68, N68⟩ := u68
                dsimp only [putL, List.set_cons_zero, List.set_cons_succ, Option.toList, List.cons_append, List.nil_append] at hu68 ⊢
                refine M.if_neP (pc := 71) (tgt := 76) dX0_partsEnough_71 (by decide) (fun c71 => ?_) (fun c71 => ?_)
                · refine M.iinc (pc := 76) (i := 4) rfl rfl dX0_partsEnough_76 ?_
                  dsimp only [List.set_cons_zero, List.set_cons_succ]
                  refine M.goto (pc := 79) (tgt := 6) dX0_partsEnough_79 (by decide) ?_
                  refine M.forget 5 ?_
                  dsimp only [List.set_cons_zero, List.set_cons_succ]
                  refine M.forget 6 ?_
                  dsimp only [List.set_cons_zero, List.set_cons_succ]
                  rw [show u * 13 + j + 1 = u * 13 + (j + 1) by omega]
                  exact ih6  (by first | assumption | omega) (by intro i h0 h1; rcases (by omega : i < j ∨ i = j) with w | w; exact hok i h0 w; rw [w]; exact ⟨c61, hu68.1.mp c71⟩) (by exact hu68.2) (by omega)
                · refine M.forget 1 ?_
                  dsimp only [List.set_cons_zero, List.set_cons_succ]
                  refine M.forget 2 ?_
                  dsimp only [List.set_cons_zero, List.set_cons_succ]
                  refine M.forget 3 ?_
                  dsimp only [List.set_cons_zero, List.set_cons_succ]
                  refine M.forget 4 ?_
                  dsimp only [List.set_cons_zero, List.set_cons_succ]
                  refine M.forget 5 ?_
                  dsimp only [List.set_cons_zero, List.set_cons_succ]
                  refine M.forget 6 ?_
                  dsimp only [List.set_cons_zero, List.set_cons_succ]
                  exact L74  (by exact OKP.no hS hM.1 (hj j hjj.1 hjJ).2 (Or.inr (fun z => c71 (hu68.1.mpr z)))) (by exact hu68.2)
            · refine M.iconst (pc := 50) dX0_partsEnough_50 ?_
              exact EI (true, N2) _ _ _ _ dX0_partsEnough_51 (Or.inr ⟨rfl, by first | exact Or.inl rfl | exact Or.inr rfl | exact pI_01 _⟩) (rfl) (rfl) (⟨⟨fun _ => OKP.of hS hM.1 hx (by rw [← hwb.2 c47]; exact hok), fun _ => rfl⟩, hN2⟩)
  rw [show u * 13 = u * 13 + 0 by omega]
  exact L6 _ (j := 0) (by first | assumption | omega) (by intro i _ h; omega) (by first | assumption | omega) (Nat.lt_succ_self _)
set_option maxHeartbeats 4000000 in
set_option maxRecDepth 100000 in
theorem c_X0_isEnough_5 {l : Launch} {G : GT} {t aL aU aP aK aN aH : Nat} {cu cp : Int} {cb : Bool} {wP : Int → Int} {wN : Int → Int} {U : Int → Int} {H : Int → Int → Int} {n : Int} {vt : Int → Prop} {S q : Int} (hn : 0 ≤ n ∧ n ≤ 6) (hE : TBE n vt H cu U wP) (hS : 0 ≤ S ∧ S < 8192) (hM : MGD n vt H S) (hq : 0 ≤ q ∧ q ≤ 5) (hN : KN n vt H wN) : Con l G yX0_isEnough cX0_isEnough 7 (some .boolean) { frames := 10, cells := 0, slots := 0, locals := 260 } [.ref t, .int (iI S), .int (iI q)] [(t, eO 0 [.ref aL, .ref aU, .ref aP, .ref aK, .ref aN, .ref aH, .int (iI cu), .int (iI cp), .int (iI (pI (cb = true)))]), (aP, eI G 1664 wP), (aN, eI G 8192 wN)] (S := Bool × (Int → Int)) (fun u => some (.int (iI (pI (u.1 = true))))) (fun u => [(t, eO 0 [.ref aL, .ref aU, .ref aP, .ref aK, .ref aN, .ref aH, .int (iI cu), .int (iI cp), .int (iI (pI (cb = true)))]), (aP, eI G 1664 wP), (aN, eI G 8192 u.2)]) (fun u => (u.1 = true ↔ NL vt H q.toNat S) ∧ KN n vt H u.2) := by
  refine Con.mk (by decide +kernel) [some (.ref t), some (.int (iI S)), some (.int (iI q)), none, none, none, none] rfl (Nat.le_of_ble_eq_true rfl) rfl ?_
  intro V M EI EL EV EA
  obtain ⟨h1a, h1b, h1c, h1d⟩ := one_ok hS
  have hkn := hN S hS hM
  have hkb := hkn.1
  have hEc := hE.1
  have hy0 : sub1 S = 0 → NL0 vt H S := fun z c d hc hd => by rw [h1c z c d hc hd]; exact fun _ _ => rfl
  have hn0 : sub1 S ≠ 0 → ¬ NL0 vt H S := fun z w => by
    obtain ⟨c, d, hc, hd, hcd⟩ := h1d z
    exact hcd (hM.2 c d hc hd (w c d hc hd))
  refine M.iloadn (pc := 0) 1 rfl rfl dX0_isEnough_0 ?_
  refine M.iloadn (pc := 1) 1 rfl rfl dX0_isEnough_1 ?_
  refine M.iconst (pc := 2) dX0_isEnough_2 ?_
  refine M.isub (pc := 3) dX0_isEnough_3 ?_
  refine M.iand (pc := 4) (h1a) dX0_isEnough_4 ?_
  refine M.if_ne (pc := 5) (tgt := 10) dX0_isEnough_5 (by decide) (by omega) (fun c5 => ?_) (fun c5 => ?_)
  · refine M.iloadn (pc := 10) 2 rfl rfl dX0_isEnough_10 ?_
    refine M.if_le (pc := 11) (tgt := 27) dX0_isEnough_11 (by decide) (by omega) (fun c11 => ?_) (fun c11 => ?_)
    · refine M.iconst (pc := 27) dX0_isEnough_27 ?_
      exact EI (false, wN) _ _ _ _ dX0_isEnough_28 (Or.inr ⟨rfl, by first | exact Or.inl rfl | exact Or.inr rfl | exact pI_01 _⟩) (rfl) (rfl) (⟨⟨fun z => absurd (show false = true from z) (by decide), fun z => absurd (show NL vt H 0 S by rw [show q.toNat = 0 by omega] at z; exact z) (hn0 c5)⟩, hN⟩)
    · refine M.iloadn (pc := 14) 1 rfl rfl dX0_isEnough_14 ?_
      refine M.if_lt (pc := 15) (tgt := 27) dX0_isEnough_15 (by decide) (by omega) (fun c15 => ?_) (fun c15 => ?_)
      · exact absurd c15 (by omega)
      · refine M.iloadn (pc := 18) 1 rfl rfl dX0_isEnough_18 ?_
        refine M.aloadn (pc := 19) 0 rfl rfl dX0_isEnough_19 ?_
        refine M.getf (pc := 20) fg_X0_25 0 rfl rfl dX0_isEnough_20 ?_
        refine M.alenI (pc := 23) 2 rfl dX0_isEnough_23 ?_
        refine M.icmp_lt (pc := 24) (tgt := 29) dX0_isEnough_24 (by decide) (by omega) (by omega) (fun c24 => ?_) (fun c24 => ?_)
        · refine M.aloadn (pc := 29) 0 rfl rfl dX0_isEnough_29 ?_
          refine M.getf (pc := 30) fg_X0_25 0 rfl rfl dX0_isEnough_30 ?_
          refine M.iloadn (pc := 33) 1 rfl rfl dX0_isEnough_33 ?_
          refine M.iald (pc := 34) 2 rfl (by omega) (by omega) dX0_isEnough_34 ?_
          refine M.bipush (pc := 35) (by decide +kernel) dX0_isEnough_35 ?_
          refine M.iand (pc := 37) (and15 (by omega)) dX0_isEnough_37 ?_
          refine M.istoren (pc := 38) 3 rfl (Nat.le_of_ble_eq_true rfl) rfl dX0_isEnough_38 ?_
          dsimp only [List.set_cons_zero, List.set_cons_succ]
          refine M.aloadn (pc := 39) 0 rfl rfl dX0_isEnough_39 ?_
          refine M.getf (pc := 40) fg_X0_25 0 rfl rfl dX0_isEnough_40 ?_
          refine M.iloadn (pc := 43) 1 rfl rfl dX0_isEnough_43 ?_
          refine M.iald (pc := 44) 2 rfl (by omega) (by omega) dX0_isEnough_44 ?_
          refine M.iconst (pc := 45) dX0_isEnough_45 ?_
          refine M.ishr (pc := 46) (shr4 (by omega) (by omega)) dX0_isEnough_46 ?_
          refine M.istore (pc := 47) (i := 4) (Nat.le_of_ble_eq_true rfl) rfl dX0_isEnough_47 ?_
          dsimp only [List.set_cons_zero, List.set_cons_succ]
          have L75 : ∀ {r : Bool}, (r = true ↔ NL vt H q.toNat S) → V 0 0 75 [(t, eO 0 [.ref aL, .ref aU, .ref aP, .ref aK, .ref aN, .ref aH, .int (iI cu), .int (iI cp), .int (iI (pI (cb = true)))]), (aP, eI G 1664 wP), (aN, eI G 8192 wN)] [some (.ref t), none, none, none, none, none, none] [.int (iI (pI (r = true)))] := by
            intro r hr
            exact EI (r, wN) _ _ _ _ dX0_isEnough_75 (Or.inr ⟨rfl, by first | exact Or.inl rfl | exact Or.inr rfl | exact pI_01 _⟩) (rfl) (rfl) (⟨hr, hN⟩)
          refine M.iloadn (pc := 49) 2 rfl rfl dX0_isEnough_49 ?_
          refine M.iloadn (pc := 50) 3 rfl rfl dX0_isEnough_50 ?_
          refine M.icmp_le (pc := 51) (tgt := 65) dX0_isEnough_51 (by decide) (by omega) (by omega) (fun c51 => ?_) (fun c51 => ?_)
          · refine M.iloadn (pc := 65) 2 rfl rfl dX0_isEnough_65 ?_
            refine M.iloadn (pc := 66) 3 rfl rfl dX0_isEnough_66 ?_
            refine M.icmp_le (pc := 67) (tgt := 74) dX0_isEnough_67 (by decide) (by omega) (by omega) (fun c67 => ?_) (fun c67 => ?_)
            · refine M.iconst (pc := 74) dX0_isEnough_74 ?_
              refine M.forget 1 ?_
              dsimp only [List.set_cons_zero, List.set_cons_succ]
              refine M.forget 2 ?_
              dsimp only [List.set_cons_zero, List.set_cons_succ]
              refine M.forget 3 ?_
              dsimp only [List.set_cons_zero, List.set_cons_succ]
              refine M.forget 4 ?_
              dsimp only [List.set_cons_zero, List.set_cons_succ]
              exact L75 (r := false) (by exact ⟨fun z => absurd z (by decide), fun z => absurd (NL.up (by omega) z) (hkn.2.1 (by omega))⟩)
            · refine M.iconst (pc := 70) dX0_isEnough_70 ?_
              refine M.goto (pc := 71) (tgt := 75) dX0_isEnough_71 (by decide) ?_
              refine M.forget 1 ?_
              dsimp only [List.set_cons_zero, List.set_cons_succ]
              refine M.forget 2 ?_
              dsimp only [List.set_cons_zero, List.set_cons_succ]
              refine M.forget 3 ?_
              dsimp only [List.set_cons_zero, List.set_cons_succ]
              refine M.forget 4 ?_
              dsimp only [List.set_cons_zero, List.set_cons_succ]
              exact L75 (r := true) (by exact ⟨fun _ => (by first | exact absurd c51 (by omega) | exact (hkn.2.2 c56).up (by omega)), fun _ => rfl⟩)
          · refine M.iload (pc := 54) (i := 4) rfl dX0_isEnough_54 ?_
            refine M.if_eq (pc := 56) (tgt := 76) dX0_isEnough_56 (by decide) (by omega) (fun c56 => ?_) (fun c56 => ?_)
            · refine M.iconst (pc := 76) dX0_isEnough_76 ?_
              refine M.istore (pc := 77) (i := 5) (Nat.le_of_ble_eq_true rfl) rfl dX0_isEnough_77 ?_
              dsimp only [List.set_cons_zero, List.set_cons_succ]
              refine M.iconst (pc := 79) dX0_isEnough_79 ?_
              refine M.istore (pc := 80) (i := 6) (Nat.le_of_ble_eq_true rfl) rfl dX0_isEnough_80 ?_
              dsimp only [List.set_cons_zero, List.set_cons_succ]
              have L82 : ∀ (fu : Nat) {f : Bool} {u : Int} {N2 : Int → Int}, (0 ≤ u ∧ u ≤ cu) → ((f = true → NL vt H q.toNat S) ∧ (f = false → ∀ v, 0 ≤ v → v < u → ¬ OKP vt H (U v) S (q - 1).toNat)) → (KN n vt H N2) → (cu - u).toNat < fu → V 0 0 82 [(t, eO 0 [.ref aL, .ref aU, .ref aP, .ref aK, .ref aN, .ref aH, .int (iI cu), .int (iI cp), .int (iI (pI (cb = true)))]), (aP, eI G 1664 wP), (aN, eI G 8192 N2)] [some (.ref t), some (.int (iI S)), some (.int (iI q)), some (.int (iI (wN S % 16))), some (.int (iI (wN S / 16))), some (.int (iI (pI (f = true)))), some (.int (iI u))] [] := by
                intro fu
                induction fu with
                | zero => intro f u N2 hu hf hN2 hm; exact absurd hm (Nat.not_lt_zero _)
                | succ fu ih82 =>
                  intro f u N2 hu hf hN2 hm82
                  refine M.iload (pc := 82) (i := 5) rfl dX0_isEnough_82 ?_
                  have L114 : (f = true ↔ NL vt H q.toNat S) → V 0 0 114 [(t, eO 0 [.ref aL, .ref aU, .ref aP, .ref aK, .ref aN, .ref aH, .int (iI cu), .int (iI cp), .int (iI (pI (cb = true)))]), (aP, eI G 1664 wP), (aN, eI G 8192 N2)] [some (.ref t), some (.int (iI S)), some (.int (iI q)), some (.int (iI (wN S % 16))), some (.int (iI (wN S / 16))), some (.int (iI (pI (f = true)))), some (.int (iI u))] [] := by
                    intro  hfin
                    refine M.aloadn (pc := 114) 0 rfl rfl dX0_isEnough_114 ?_
                    refine M.getf (pc := 115) fg_X0_25 0 rfl rfl dX0_isEnough_115 ?_
                    have L138 : ∀ {val : Int}, (KN n vt H (upZ N2 S val)) → V 0 0 138 [(t, eO 0 [.ref aL, .ref aU, .ref aP, .ref aK, .ref aN, .ref aH, .int (iI cu), .int (iI cp), .int (iI (pI (cb = true)))]), (aP, eI G 1664 wP), (aN, eI G 8192 N2)] [some (.ref t), some (.int (iI S)), some (.int (iI q)), some (.int (iI (wN S % 16))), some (.int (iI (wN S / 16))), some (.int (iI (pI (f = true)))), some (.int (iI u))] [.int (iI val), .int (iI S), .ref aN] := by
                      intro val hval
                      refine M.iast (pc := 138) 2 rfl (by omega) (by omega) dX0_isEnough_138 ?_
                      dsimp only [List.set_cons_zero, List.set_cons_succ]
                      refine M.iload (pc := 139) (i := 5) rfl dX0_isEnough_139 ?_
                      exact EI (f, upZ N2 S val) _ _ _ _ dX0_isEnough_141 (Or.inr ⟨rfl, by first | exact Or.inl rfl | exact Or.inr rfl | exact pI_01 _⟩) (rfl) (rfl) (⟨hfin, hval⟩)
                    refine M.iloadn (pc := 118) 1 rfl rfl dX0_isEnough_118 ?_
                    refine M.iload (pc := 119) (i := 5) rfl dX0_isEnough_119 ?_
                    refine M.if_eqP (pc := 121) (tgt := 132) dX0_isEnough_121 (by decide) (fun c121 => ?_) (fun c121 => ?_)
                    · refine M.iloadn (pc := 132) 2 rfl rfl dX0_isEnough_132 ?_
                      refine M.iload (pc := 133) (i := 4) rfl dX0_isEnough_133 ?_
                      refine M.iconst (pc := 135) dX0_isEnough_135 ?_
                      refine M.ishl (pc := 136) (sh4 (by omega)) dX0_isEnough_136 ?_
                      refine M.ior (pc := 137) (or4 (by omega) (by omega)) dX0_isEnough_137 ?_
                      have e1 : (q + wN S / 16 * 16) % 16 = q := by omega
                      have e2 : (q + wN S / 16 * 16) / 16 = wN S / 16 := by omega
                      exact L138  (by exact hN2.up (by rw [e1, e2]; omega) (by rw [e1]; exact fun _ z => c121 (hfin.mpr z)) (by rw [e2]; exact hkn.2.2))
                    · refine M.iloadn (pc := 124) 3 rfl rfl dX0_isEnough_124 ?_
                      refine M.iloadn (pc := 125) 2 rfl rfl dX0_isEnough_125 ?_
                      refine M.iconst (pc := 126) dX0_isEnough_126 ?_
                      refine M.ishl (pc := 127) (sh4 (by omega)) dX0_isEnough_127 ?_
                      refine M.ior (pc := 128) (or4 (by omega) (by omega)) dX0_isEnough_128 ?_
                      refine M.goto (pc := 129) (tgt := 138) dX0_isEnough_129 (by decide) ?_
                      have e1 : (wN S % 16 + q * 16) % 16 = wN S % 16 := by omega
                      have e2 : (wN S % 16 + q * 16) / 16 = q := by omega
                      exact L138  (by exact hN2.up (by rw [e1, e2]; omega) (by rw [e1]; exact hkn.2.1) (by rw [e2]; exact fun _ => hfin.mp c121))
                  refine M.if_neP (pc := 84) (tgt := 114) dX0_isEnough_84 (by decide) (fun c84 => ?_) (fun c84 => ?_)
                  · exact L114  (by exact ⟨fun _ => hf.1 c84, fun _ => c84⟩)
                  · refine M.iload (pc := 87) (i := 6) rfl dX0_isEnough_87 ?_
                    refine M.aloadn (pc := 89) 0 rfl rfl dX0_isEnough_89 ?_
                    refine M.getf (pc := 90) fg_X0_43 0 rfl rfl dX0_isEnough_90 ?_
                    refine M.icmp_ge (pc := 93) (tgt := 114) dX0_isEnough_93 (by decide) (by omega) (by omega) (fun c93 => ?_) (fun c93 => ?_)
                    · exact L114  (by exact ⟨fun z => absurd z c84, fun z => absurd (NL.okp (by omega) (hn0 c5) z) (fun ⟨s, h1, h2⟩ => (hE.cov hn hM.1 h1 h2).elim (fun v hv => hf.2 (Bool.eq_false_iff.mpr c84) v hv.1.1 (by omega) hv.2.2))⟩)
                    · refine M.aloadn (pc := 96) 0 rfl rfl dX0_isEnough_96 ?_
                      refine M.iload (pc := 97) (i := 6) rfl dX0_isEnough_97 ?_
                      refine M.iloadn (pc := 99) 1 rfl rfl dX0_isEnough_99 ?_
                      refine M.iloadn (pc := 100) 2 rfl rfl dX0_isEnough_100 ?_
                      refine M.iconst (pc := 101) dX0_isEnough_101 ?_
                      refine M.isub (pc := 102) dX0_isEnough_102 ?_
                      refine M.mS (pc := 103) (c_X0_partsEnough_4 (n := n) (U := U) (H := H) (vt := vt) (by first | assumption | omega) (by exact hE) (by exact hS) (by exact hM) (by omega) (by exact hN2) (by omega)) ms_X0_118 [0, 1, 2] rfl rfl rfl rfl (Nat.le_of_ble_eq_true rfl) rfl ⟨(Nat.le_of_ble_eq_true rfl), (Nat.le_of_ble_eq_true rfl)⟩ ⟨(Nat.le_of_ble_eq_true rfl), (Nat.le_of_ble_eq_true rfl)⟩ rfl (fun _ => rfl) dX0_isEnough_103 (fun u103 hu103 => ?_)
                      obtain ⟨r103, N103⟩ := u103
                      dsimp only [putL, List.set_cons_zero, List.set_cons_succ, Option.toList, List.cons_append, List.nil_append] at hu103 ⊢
                      refine M.istore (pc := 106) (i := 5) (Nat.le_of_ble_eq_true rfl) rfl dX0_isEnough_106 ?_
                      dsimp only [List.set_cons_zero, List.set_cons_succ]
                      refine M.iinc (pc := 108) (i := 6) rfl rfl dX0_isEnough_108 ?_
                      dsimp only [List.set_cons_zero, List.set_cons_succ]
                      refine M.goto (pc := 111) (tgt := 82) dX0_isEnough_111 (by decide) ?_
                      exact ih82  (by first | assumption | omega) (by exact ⟨fun z => OKP.nl (by omega) (hE.2.1 u hu.1 (by omega)).1 (hu103.1.mp z), fun z v h0 h1 => (by omega : v < u ∨ v = u).elim (fun w => hf.2 (Bool.eq_false_iff.mpr c84) v h0 w) (fun w y => absurd (hu103.1.mpr (by rw [← w]; exact y)) (by show ¬ r103 = true; rw [show r103 = false from z]; decide))⟩) (by exact hu103.2) (by omega)
              exact L82 _ (f := false) (by first | assumption | omega) (by exact ⟨fun z => absurd z (by decide), fun _ v _ h => by omega⟩) (by first | assumption | omega) (Nat.lt_succ_self _)
            · refine M.iloadn (pc := 59) 2 rfl rfl dX0_isEnough_59 ?_
              refine M.iload (pc := 60) (i := 4) rfl dX0_isEnough_60 ?_
              refine M.icmp_lt (pc := 62) (tgt := 76) dX0_isEnough_62 (by decide) (by omega) (by omega) (fun c62 => ?_) (fun c62 => ?_)
              · refine M.iconst (pc := 76) dX0_isEnough_76 ?_
                refine M.istore (pc := 77) (i := 5) (Nat.le_of_ble_eq_true rfl) rfl dX0_isEnough_77 ?_
                dsimp only [List.set_cons_zero, List.set_cons_succ]
                refine M.iconst (pc := 79) dX0_isEnough_79 ?_
                refine M.istore (pc := 80) (i := 6) (Nat.le_of_ble_eq_true rfl) rfl dX0_isEnough_80 ?_
                dsimp only [List.set_cons_zero, List.set_cons_succ]
                have L82 : ∀ (fu : Nat) {f : Bool} {u : Int} {N2 : Int → Int}, (0 ≤ u ∧ u ≤ cu) → ((f = true → NL vt H q.toNat S) ∧ (f = false → ∀ v, 0 ≤ v → v < u → ¬ OKP vt H (U v) S (q - 1).toNat)) → (KN n vt H N2) → (cu - u).toNat < fu → V 0 0 82 [(t, eO 0 [.ref aL, .ref aU, .ref aP, .ref aK, .ref aN, .ref aH, .int (iI cu), .int (iI cp), .int (iI (pI (cb = true)))]), (aP, eI G 1664 wP), (aN, eI G 8192 N2)] [some (.ref t), some (.int (iI S)), some (.int (iI q)), some (.int (iI (wN S % 16))), some (.int (iI (wN S / 16))), some (.int (iI (pI (f = true)))), some (.int (iI u))] [] := by
                  intro fu
                  induction fu with
                  | zero => intro f u N2 hu hf hN2 hm; exact absurd hm (Nat.not_lt_zero _)
                  | succ fu ih82 =>
                    intro f u N2 hu hf hN2 hm82
                    refine M.iload (pc := 82) (i := 5) rfl dX0_isEnough_82 ?_
                    have L114 : (f = true ↔ NL vt H q.toNat S) → V 0 0 114 [(t, eO 0 [.ref aL, .ref aU, .ref aP, .ref aK, .ref aN, .ref aH, .int (iI cu), .int (iI cp), .int (iI (pI (cb = true)))]), (aP, eI G 1664 wP), (aN, eI G 8192 N2)] [some (.ref t), some (.int (iI S)), some (.int (iI q)), some (.int (iI (wN S % 16))), some (.int (iI (wN S / 16))), some (.int (iI (pI (f = true)))), some (.int (iI u))] [] := by
                      intro  hfin
                      refine M.aloadn (pc := 114) 0 rfl rfl dX0_isEnough_114 ?_
                      refine M.getf (pc := 115) fg_X0_25 0 rfl rfl dX0_isEnough_115 ?_
                      have L138 : ∀ {val : Int}, (KN n vt H (upZ N2 S val)) → V 0 0 138 [(t, eO 0 [.ref aL, .ref aU, .ref aP, .ref aK, .ref aN, .ref aH, .int (iI cu), .int (iI cp), .int (iI (pI (cb = true)))]), (aP, eI G 1664 wP), (aN, eI G 8192 N2)] [some (.ref t), some (.int (iI S)), some (.int (iI q)), some (.int (iI (wN S % 16))), some (.int (iI (wN S / 16))), some (.int (iI (pI (f = true)))), some (.int (iI u))] [.int (iI val), .int (iI S), .ref aN] := by
                        intro val hval
                        refine M.iast (pc := 138) 2 rfl (by omega) (by omega) dX0_isEnough_138 ?_
                        dsimp only [List.set_cons_zero, List.set_cons_succ]
                        refine M.iload (pc := 139) (i := 5) rfl dX0_isEnough_139 ?_
                        exact EI (f, upZ N2 S val) _ _ _ _ dX0_isEnough_141 (Or.inr ⟨rfl, by first | exact Or.inl rfl | exact Or.inr rfl | exact pI_01 _⟩) (rfl) (rfl) (⟨hfin, hval⟩)
                      refine M.iloadn (pc := 118) 1 rfl rfl dX0_isEnough_118 ?_
                      refine M.iload (pc := 119) (i := 5) rfl dX0_isEnough_119 ?_
                      refine M.if_eqP (pc := 121) (tgt := 132) dX0_isEnough_121 (by decide) (fun c121 => ?_) (fun c121 => ?_)
                      · refine M.iloadn (pc := 132) 2 rfl rfl dX0_isEnough_132 ?_
                        refine M.iload (pc := 133) (i := 4) rfl dX0_isEnough_133 ?_
                        refine M.iconst (pc := 135) dX0_isEnough_135 ?_
                        refine M.ishl (pc := 136) (sh4 (by omega)) dX0_isEnough_136 ?_
                        refine M.ior (pc := 137) (or4 (by omega) (by omega)) dX0_isEnough_137 ?_
                        have e1 : (q + wN S / 16 * 16) % 16 = q := by omega
                        have e2 : (q + wN S / 16 * 16) / 16 = wN S / 16 := by omega
                        exact L138  (by exact hN2.up (by rw [e1, e2]; omega) (by rw [e1]; exact fun _ z => c121 (hfin.mpr z)) (by rw [e2]; exact hkn.2.2))
                      · refine M.iloadn (pc := 124) 3 rfl rfl dX0_isEnough_124 ?_
                        refine M.iloadn (pc := 125) 2 rfl rfl dX0_isEnough_125 ?_
                        refine M.iconst (pc := 126) dX0_isEnough_126 ?_
                        refine M.ishl (pc := 127) (sh4 (by omega)) dX0_isEnough_127 ?_
                        refine M.ior (pc := 128) (or4 (by omega) (by omega)) dX0_isEnough_128 ?_
                        refine M.goto (pc := 129) (tgt := 138) dX0_isEnough_129 (by decide) ?_
                        have e1 : (wN S % 16 + q * 16) % 16 = wN S % 16 := by omega
                        have e2 : (wN S % 16 + q * 16) / 16 = q := by omega
                        exact L138  (by exact hN2.up (by rw [e1, e2]; omega) (by rw [e1]; exact hkn.2.1) (by rw [e2]; exact fun _ => hfin.mp c121))
                    refine M.if_neP (pc := 84) (tgt := 114) dX0_isEnough_84 (by decide) (fun c84 => ?_) (fun c84 => ?_)
                    · exact L114  (by exact ⟨fun _ => hf.1 c84, fun _ => c84⟩)
                    · refine M.iload (pc := 87) (i := 6) rfl dX0_isEnough_87 ?_
                      refine M.aloadn (pc := 89) 0 rfl rfl dX0_isEnough_89 ?_
                      refine M.getf (pc := 90) fg_X0_43 0 rfl rfl dX0_isEnough_90 ?_
                      refine M.icmp_ge (pc := 93) (tgt := 114) dX0_isEnough_93 (by decide) (by omega) (by omega) (fun c93 => ?_) (fun c93 => ?_)
                      · exact L114  (by exact ⟨fun z => absurd z c84, fun z => absurd (NL.okp (by omega) (hn0 c5) z) (fun ⟨s, h1, h2⟩ => (hE.cov hn hM.1 h1 h2).elim (fun v hv => hf.2 (Bool.eq_false_iff.mpr c84) v hv.1.1 (by omega) hv.2.2))⟩)
                      · refine M.aloadn (pc := 96) 0 rfl rfl dX0_isEnough_96 ?_
                        refine M.iload (pc := 97) (i := 6) rfl dX0_isEnough_97 ?_
                        refine M.iloadn (pc := 99) 1 rfl rfl dX0_isEnough_99 ?_
                        refine M.iloadn (pc := 100) 2 rfl rfl dX0_isEnough_100 ?_
                        refine M.iconst (pc := 101) dX0_isEnough_101 ?_
                        refine M.isub (pc := 102) dX0_isEnough_102 ?_
                        refine M.mS (pc := 103) (c_X0_partsEnough_4 (n := n) (U := U) (H := H) (vt := vt) (by first | assumption | omega) (by exact hE) (by exact hS) (by exact hM) (by omega) (by exact hN2) (by omega)) ms_X0_118 [0, 1, 2] rfl rfl rfl rfl (Nat.le_of_ble_eq_true rfl) rfl ⟨(Nat.le_of_ble_eq_true rfl), (Nat.le_of_ble_eq_true rfl)⟩ ⟨(Nat.le_of_ble_eq_true rfl), (Nat.le_of_ble_eq_true rfl)⟩ rfl (fun _ => rfl) dX0_isEnough_103 (fun u103 hu103 => ?_)
                        obtain ⟨r103, N103⟩ := u103
                        dsimp only [putL, List.set_cons_zero, List.set_cons_succ, Option.toList, List.cons_append, List.nil_append] at hu103 ⊢
                        refine M.istore (pc := 106) (i := 5) (Nat.le_of_ble_eq_true rfl) rfl dX0_isEnough_106 ?_
                        dsimp only [List.set_cons_zero, List.set_cons_succ]
                        refine M.iinc (pc := 108) (i := 6) rfl rfl dX0_isEnough_108 ?_
                        dsimp only [List.set_cons_zero, List.set_cons_succ]
                        refine M.goto (pc := 111) (tgt := 82) dX0_isEnough_111 (by decide) ?_
                        exact ih82  (by first | assumption | omega) (by exact ⟨fun z => OKP.nl (by omega) (hE.2.1 u hu.1 (by omega)).1 (hu103.1.mp z), fun z v h0 h1 => (by omega : v < u ∨ v = u).elim (fun w => hf.2 (Bool.eq_false_iff.mpr c84) v h0 w) (fun w y => absurd (hu103.1.mpr (by rw [← w]; exact y)) (by show ¬ r103 = true; rw [show r103 = false from z]; decide))⟩) (by exact hu103.2) (by omega)
                exact L82 _ (f := false) (by first | assumption | omega) (by exact ⟨fun z => absurd z (by decide), fun _ v _ h => by omega⟩) (by first | assumption | omega) (Nat.lt_succ_self _)
              · refine M.iloadn (pc := 65) 2 rfl rfl dX0_isEnough_65 ?_
                refine M.iloadn (pc := 66) 3 rfl rfl dX0_isEnough_66 ?_
                refine M.icmp_le (pc := 67) (tgt := 74) dX0_isEnough_67 (by decide) (by omega) (by omega) (fun c67 => ?_) (fun c67 => ?_)
                · refine M.iconst (pc := 74) dX0_isEnough_74 ?_
                  refine M.forget 1 ?_
                  dsimp only [List.set_cons_zero, List.set_cons_succ]
                  refine M.forget 2 ?_
                  dsimp only [List.set_cons_zero, List.set_cons_succ]
                  refine M.forget 3 ?_
                  dsimp only [List.set_cons_zero, List.set_cons_succ]
                  refine M.forget 4 ?_
                  dsimp only [List.set_cons_zero, List.set_cons_succ]
                  exact L75 (r := false) (by exact ⟨fun z => absurd z (by decide), fun z => absurd (NL.up (by omega) z) (hkn.2.1 (by omega))⟩)
                · refine M.iconst (pc := 70) dX0_isEnough_70 ?_
                  refine M.goto (pc := 71) (tgt := 75) dX0_isEnough_71 (by decide) ?_
                  refine M.forget 1 ?_
                  dsimp only [List.set_cons_zero, List.set_cons_succ]
                  refine M.forget 2 ?_
                  dsimp only [List.set_cons_zero, List.set_cons_succ]
                  refine M.forget 3 ?_
                  dsimp only [List.set_cons_zero, List.set_cons_succ]
                  refine M.forget 4 ?_
                  dsimp only [List.set_cons_zero, List.set_cons_succ]
                  exact L75 (r := true) (by exact ⟨fun _ => (by first | exact absurd c51 (by omega) | exact (hkn.2.2 c56).up (by omega)), fun _ => rfl⟩)
        · exact absurd c24 (by omega)
  · refine M.iconst (pc := 8) dX0_isEnough_8 ?_
    exact EI (true, wN) _ _ _ _ dX0_isEnough_9 (Or.inr ⟨rfl, by first | exact Or.inl rfl | exact Or.inr rfl | exact pI_01 _⟩) (rfl) (rfl) (⟨⟨fun _ => NL.up (Nat.zero_le _) (show NL vt H 0 S from hy0 c5), fun _ => rfl⟩, hN⟩)
set_option maxHeartbeats 4000000 in
set_option maxRecDepth 100000 in
theorem c_X0_partsEnough_5 {l : Launch} {G : GT} {t aL aU aP aK aN aH : Nat} {cu cp : Int} {cb : Bool} {wP : Int → Int} {wN : Int → Int} {U : Int → Int} {H : Int → Int → Int} {n : Int} {vt : Int → Prop} {u S q : Int} (hn : 0 ≤ n ∧ n ≤ 6) (hE : TBE n vt H cu U wP) (hS : 0 ≤ S ∧ S < 8192) (hM : MGD n vt H S) (hq : 0 ≤ q ∧ q ≤ 5) (hN : KN n vt H wN) (hu : 0 ≤ u ∧ u < cu) : Con l G yX0_partsEnough cX0_partsEnough 7 (some .boolean) { frames := 11, cells := 0, slots := 0, locals := 286 } [.ref t, .int (iI u), .int (iI S), .int (iI q)] [(t, eO 0 [.ref aL, .ref aU, .ref aP, .ref aK, .ref aN, .ref aH, .int (iI cu), .int (iI cp), .int (iI (pI (cb = true)))]), (aP, eI G 1664 wP), (aN, eI G 8192 wN)] (S := Bool × (Int → Int)) (fun u => some (.int (iI (pI (u.1 = true))))) (fun u => [(t, eO 0 [.ref aL, .ref aU, .ref aP, .ref aK, .ref aN, .ref aH, .int (iI cu), .int (iI cp), .int (iI (pI (cb = true)))]), (aP, eI G 1664 wP), (aN, eI G 8192 u.2)]) (fun x => (x.1 = true ↔ OKP vt H (U u) S q.toNat) ∧ KN n vt H x.2) := by
  refine Con.mk (by decide +kernel) [some (.ref t), some (.int (iI u)), some (.int (iI S)), some (.int (iI q)), none, none, none] rfl (Nat.le_of_ble_eq_true rfl) rfl ?_
  intro V M EI EL EV EA
  have hEc := hE.1
  obtain ⟨hvt, J, hJ, hj, hz, hx⟩ := hE.2.1 u hu.1 hu.2
  refine M.iloadn (pc := 0) 1 rfl rfl dX0_partsEnough_0 ?_
  refine M.bipush (pc := 1) (by decide +kernel) dX0_partsEnough_1 ?_
  refine M.imul (pc := 3) dX0_partsEnough_3 ?_
  refine M.istore (pc := 4) (i := 4) (Nat.le_of_ble_eq_true rfl) rfl dX0_partsEnough_4 ?_
  dsimp only [List.set_cons_zero, List.set_cons_succ]
  have L6 : ∀ (fu : Nat) {j : Int} {N2 : Int → Int}, (0 ≤ j ∧ j ≤ J) → (∀ i, 0 ≤ i → i < j → land S (wP (u * 13 + i)) ≠ S ∧ NL vt H q.toNat (land S (wP (u * 13 + i)))) → (KN n vt H N2) → (13 - j).toNat < fu → V 0 0 6 [(t, eO 0 [.ref aL, .ref aU, .ref aP, .ref aK, .ref aN, .ref aH, .int (iI cu), .int (iI cp), .int (iI (pI (cb = true)))]), (aP, eI G 1664 wP), (aN, eI G 8192 N2)] [some (.ref t), some (.int (iI u)), some (.int (iI S)), some (.int (iI q)), some (.int (iI (u * 13 + j))), none, none] [] := by
    intro fu
    induction fu with
    | zero => intro j N2 hjj hok hN2 hm; exact absurd hm (Nat.not_lt_zero _)
    | succ fu ih6 =>
      intro j N2 hjj hok hN2 hm6
      refine M.iload (pc := 6) (i := 4) rfl dX0_partsEnough_6 ?_
      refine M.iloadn (pc := 8) 1 rfl rfl dX0_partsEnough_8 ?_
      refine M.iconst (pc := 9) dX0_partsEnough_9 ?_
      refine M.iadd (pc := 10) dX0_partsEnough_10 ?_
      refine M.bipush (pc := 11) (by decide +kernel) dX0_partsEnough_11 ?_
      refine M.imul (pc := 13) dX0_partsEnough_13 ?_
      refine M.icmp_ge (pc := 14) (tgt := 82) dX0_partsEnough_14 (by decide) (by omega) (by omega) (fun c14 => ?_) (fun c14 => ?_)
      · refine M.iconst (pc := 82) dX0_partsEnough_82 ?_
        exact EI (true, N2) _ _ _ _ dX0_partsEnough_83 (Or.inr ⟨rfl, by first | exact Or.inl rfl | exact Or.inr rfl | exact pI_01 _⟩) (rfl) (rfl) (⟨⟨fun _ => OKP.of hS hM.1 hx (by rw [show J = j by omega]; exact hok), fun _ => rfl⟩, hN2⟩)
      · refine M.iload (pc := 17) (i := 4) rfl dX0_partsEnough_17 ?_
        refine M.if_lt (pc := 19) (tgt := 42) dX0_partsEnough_19 (by decide) (by omega) (fun c19 => ?_) (fun c19 => ?_)
        · exact absurd c19 (by omega)
        · refine M.iload (pc := 22) (i := 4) rfl dX0_partsEnough_22 ?_
          refine M.aloadn (pc := 24) 0 rfl rfl dX0_partsEnough_24 ?_
          refine M.getf (pc := 25) fg_X0_19 0 rfl rfl dX0_partsEnough_25 ?_
          refine M.alenI (pc := 28) 1 rfl dX0_partsEnough_28 ?_
          refine M.icmp_ge (pc := 29) (tgt := 42) dX0_partsEnough_29 (by decide) (by omega) (by omega) (fun c29 => ?_) (fun c29 => ?_)
          · exact absurd c29 (by omega)
          · refine M.aloadn (pc := 32) 0 rfl rfl dX0_partsEnough_32 ?_
            refine M.getf (pc := 33) fg_X0_19 0 rfl rfl dX0_partsEnough_33 ?_
            refine M.iload (pc := 36) (i := 4) rfl dX0_partsEnough_36 ?_
            refine M.iald (pc := 38) 1 rfl (by omega) (by omega) dX0_partsEnough_38 ?_
            refine M.goto (pc := 39) (tgt := 43) dX0_partsEnough_39 (by decide) ?_
            refine M.istore (pc := 43) (i := 5) (Nat.le_of_ble_eq_true rfl) rfl dX0_partsEnough_43 ?_
            dsimp only [List.set_cons_zero, List.set_cons_succ]
            have hwb : (0 ≤ wP (u * 13 + j) ∧ wP (u * 13 + j) < 8192) ∧ (wP (u * 13 + j) = 0 → j = J) := by
              rcases (by omega : j < J ∨ j = J) with w | w
              · obtain ⟨h1, x, h2, h3⟩ := hj j hjj.1 w
                have h4 : 0 ≤ PT H (U u) (cm (prB n) 13) x ∧ PT H (U u) (cm (prB n) 13) x < 8192 := cm_13b _
                exact ⟨by rw [h3]; exact h4, fun z => absurd z h1⟩
              · have h5 := hz (by omega)
                rw [w, h5]
                exact ⟨by omega, fun _ => rfl⟩
            refine M.iload (pc := 45) (i := 5) rfl dX0_partsEnough_45 ?_
            refine M.if_ne (pc := 47) (tgt := 52) dX0_partsEnough_47 (by decide) (by omega) (fun c47 => ?_) (fun c47 => ?_)
            · have hjJ : j < J := by
                rcases (by omega : j < J ∨ j = J) with w | w
                · exact w
                · exact absurd (by rw [w]; exact hz (by omega)) c47
              have hll := land_b (a := S) (b := wP (u * 13 + j)) hS.1 hwb.1.1
              refine M.iloadn (pc := 52) 2 rfl rfl dX0_partsEnough_52 ?_
              refine M.iload (pc := 53) (i := 5) rfl dX0_partsEnough_53 ?_
              refine M.iand (pc := 55) (land_ok hS.1 hwb.1.1) dX0_partsEnough_55 ?_
              have L74 : ∀ {N3 : Int → Int}, (¬ OKP vt H (U u) S q.toNat) → (KN n vt H N3) → V 0 0 74 [(t, eO 0 [.ref aL, .ref aU, .ref aP, .ref aK, .ref aN, .ref aH, .int (iI cu), .int (iI cp), .int (iI (pI (cb = true)))]), (aP, eI G 1664 wP), (aN, eI G 8192 N3)] [some (.ref t), none, none, none, none, none, none] [] := by
                intro N3 hno hN3
                refine M.iconst (pc := 74) dX0_partsEnough_74 ?_
                exact EI (false, N3) _ _ _ _ dX0_partsEnough_75 (Or.inr ⟨rfl, by first | exact Or.inl rfl | exact Or.inr rfl | exact pI_01 _⟩) (rfl) (rfl) (⟨⟨fun z => absurd (show false = true from z) (by decide), fun z => absurd z hno⟩, hN3⟩)
              refine M.istore (pc := 56) (i := 6) (Nat.le_of_ble_eq_true rfl) rfl dX0_partsEnough_56 ?_
              dsimp only [List.set_cons_zero, List.set_cons_succ]
              refine M.iload (pc := 58) (i := 6) rfl dX0_partsEnough_58 ?_
              refine M.iloadn (pc := 60) 2 rfl rfl dX0_partsEnough_60 ?_
              refine M.icmp_eq (pc := 61) (tgt := 74) dX0_partsEnough_61 (by decide) (by omega) (by omega) (fun c61 => ?_) (fun c61 => ?_)
              · refine M.forget 1 ?_
                dsimp only [List.set_cons_zero, List.set_cons_succ]
                refine M.forget 2 ?_
                dsimp only [List.set_cons_zero, List.set_cons_succ]
                refine M.forget 3 ?_
                dsimp only [List.set_cons_zero, List.set_cons_succ]
                refine M.forget 4 ?_
                dsimp only [List.set_cons_zero, List.set_cons_succ]
                refine M.forget 5 ?_
                dsimp only [List.set_cons_zero, List.set_cons_succ]
                refine M.forget 6 ?_
                dsimp only [List.set_cons_zero, List.set_cons_succ]
                exact L74  (by exact OKP.no hS hM.1 (hj j hjj.1 hjJ).2 (Or.inl c61)) (by exact hN2)
              · refine M.aloadn (pc := 64) 0 rfl rfl dX0_partsEnough_64 ?_
                refine M.iload (pc := 65) (i := 6) rfl dX0_partsEnough_65 ?_
                refine M.iloadn (pc := 67) 3 rfl rfl dX0_partsEnough_67 ?_
                refine M.mS (pc := 68) (c_X0_isEnough_5 (n := n) (U := U) (H := H) (vt := vt) (by first | assumption | omega) (by exact hE) (by omega) (by exact hM.sub (fun d hd => (me_land hd).1)) (by exact hq) (by exact hN2)) ms_X0_114 [0, 1, 2] rfl rfl rfl rfl (Nat.le_of_ble_eq_true rfl) rfl ⟨(Nat.le_of_ble_eq_true rfl), (Nat.le_of_ble_eq_true rfl)⟩ ⟨(Nat.le_of_ble_eq_true rfl), (Nat.le_of_ble_eq_true rfl)⟩ rfl (fun _ => rfl) dX0_partsEnough_68 (fun u68 hu68 => ?_)
                obtain ⟨r68, N68⟩ := u68
                dsimp only [putL, List.set_cons_zero, List.set_cons_succ, Option.toList, List.cons_append, List.nil_append] at hu68 ⊢
                refine M.if_neP (pc := 71) (tgt := 76) dX0_partsEnough_71 (by decide) (fun c71 => ?_) (fun c71 => ?_)
                · refine M.iinc (pc := 76) (i := 4) rfl rfl dX0_partsEnough_76 ?_
                  dsimp only [List.set_cons_zero, List.set_cons_succ]
                  refine M.goto (pc := 79) (tgt := 6) dX0_partsEnough_79 (by decide) ?_
                  refine M.forget 5 ?_
                  dsimp only [List.set_cons_zero, List.set_cons_succ]
                  refine M.forget 6 ?_
                  dsimp only [List.set_cons_zero, List.set_cons_succ]
                  rw [show u * 13 + j + 1 = u * 13 + (j + 1) by omega]
                  exact ih6  (by first | assumption | omega) (by intro i h0 h1; rcases (by omega : i < j ∨ i = j) with w | w; exact hok i h0 w; rw [w]; exact ⟨c61, hu68.1.mp c71⟩) (by exact hu68.2) (by omega)
                · refine M.forget 1 ?_
                  dsimp only [List.set_cons_zero, List.set_cons_succ]
                  refine M.forget 2 ?_
                  dsimp only [List.set_cons_zero, List.set_cons_succ]
                  refine M.forget 3 ?_
                  dsimp only [List.set_cons_zero, List.set_cons_succ]
                  refine M.forget 4 ?_
                  dsimp only [List.set_cons_zero, List.set_cons_succ]
                  refine M.forget 5 ?_
                  dsimp only [List.set_cons_zero, List.set_cons_succ]
                  refine M.forget 6 ?_
                  dsimp only [List.set_cons_zero, List.set_cons_succ]
                  exact L74  (by exact OKP.no hS hM.1 (hj j hjj.1 hjJ).2 (Or.inr (fun z => c71 (hu68.1.mpr z)))) (by exact hu68.2)
            · refine M.iconst (pc := 50) dX0_partsEnough_50 ?_
              exact EI (true, N2) _ _ _ _ dX0_partsEnough_51 (Or.inr ⟨rfl, by first | exact Or.inl rfl | exact Or.inr rfl | exact pI_01 _⟩) (rfl) (rfl) (⟨⟨fun _ => OKP.of hS hM.1 hx (by rw [← hwb.2 c47]; exact hok), fun _ => rfl⟩, hN2⟩)
  rw [show u * 13 = u * 13 + 0 by omega]
  exact L6 _ (j := 0) (by first | assumption | omega) (by intro i _ h; omega) (by first | assumption | omega) (Nat.lt_succ_self _)
set_option maxHeartbeats 4000000 in
set_option maxRecDepth 100000 in
theorem c_X0_isEnough_6 {l : Launch} {G : GT} {t aL aU aP aK aN aH : Nat} {cu cp : Int} {cb : Bool} {wP : Int → Int} {wN : Int → Int} {U : Int → Int} {H : Int → Int → Int} {n : Int} {vt : Int → Prop} {S q : Int} (hn : 0 ≤ n ∧ n ≤ 6) (hE : TBE n vt H cu U wP) (hS : 0 ≤ S ∧ S < 8192) (hM : MGD n vt H S) (hq : 0 ≤ q ∧ q ≤ 6) (hN : KN n vt H wN) : Con l G yX0_isEnough cX0_isEnough 7 (some .boolean) { frames := 12, cells := 0, slots := 0, locals := 312 } [.ref t, .int (iI S), .int (iI q)] [(t, eO 0 [.ref aL, .ref aU, .ref aP, .ref aK, .ref aN, .ref aH, .int (iI cu), .int (iI cp), .int (iI (pI (cb = true)))]), (aP, eI G 1664 wP), (aN, eI G 8192 wN)] (S := Bool × (Int → Int)) (fun u => some (.int (iI (pI (u.1 = true))))) (fun u => [(t, eO 0 [.ref aL, .ref aU, .ref aP, .ref aK, .ref aN, .ref aH, .int (iI cu), .int (iI cp), .int (iI (pI (cb = true)))]), (aP, eI G 1664 wP), (aN, eI G 8192 u.2)]) (fun u => (u.1 = true ↔ NL vt H q.toNat S) ∧ KN n vt H u.2) := by
  refine Con.mk (by decide +kernel) [some (.ref t), some (.int (iI S)), some (.int (iI q)), none, none, none, none] rfl (Nat.le_of_ble_eq_true rfl) rfl ?_
  intro V M EI EL EV EA
  obtain ⟨h1a, h1b, h1c, h1d⟩ := one_ok hS
  have hkn := hN S hS hM
  have hkb := hkn.1
  have hEc := hE.1
  have hy0 : sub1 S = 0 → NL0 vt H S := fun z c d hc hd => by rw [h1c z c d hc hd]; exact fun _ _ => rfl
  have hn0 : sub1 S ≠ 0 → ¬ NL0 vt H S := fun z w => by
    obtain ⟨c, d, hc, hd, hcd⟩ := h1d z
    exact hcd (hM.2 c d hc hd (w c d hc hd))
  refine M.iloadn (pc := 0) 1 rfl rfl dX0_isEnough_0 ?_
  refine M.iloadn (pc := 1) 1 rfl rfl dX0_isEnough_1 ?_
  refine M.iconst (pc := 2) dX0_isEnough_2 ?_
  refine M.isub (pc := 3) dX0_isEnough_3 ?_
  refine M.iand (pc := 4) (h1a) dX0_isEnough_4 ?_
  refine M.if_ne (pc := 5) (tgt := 10) dX0_isEnough_5 (by decide) (by omega) (fun c5 => ?_) (fun c5 => ?_)
  · refine M.iloadn (pc := 10) 2 rfl rfl dX0_isEnough_10 ?_
    refine M.if_le (pc := 11) (tgt := 27) dX0_isEnough_11 (by decide) (by omega) (fun c11 => ?_) (fun c11 => ?_)
    · refine M.iconst (pc := 27) dX0_isEnough_27 ?_
      exact EI (false, wN) _ _ _ _ dX0_isEnough_28 (Or.inr ⟨rfl, by first | exact Or.inl rfl | exact Or.inr rfl | exact pI_01 _⟩) (rfl) (rfl) (⟨⟨fun z => absurd (show false = true from z) (by decide), fun z => absurd (show NL vt H 0 S by rw [show q.toNat = 0 by omega] at z; exact z) (hn0 c5)⟩, hN⟩)
    · refine M.iloadn (pc := 14) 1 rfl rfl dX0_isEnough_14 ?_
      refine M.if_lt (pc := 15) (tgt := 27) dX0_isEnough_15 (by decide) (by omega) (fun c15 => ?_) (fun c15 => ?_)
      · exact absurd c15 (by omega)
      · refine M.iloadn (pc := 18) 1 rfl rfl dX0_isEnough_18 ?_
        refine M.aloadn (pc := 19) 0 rfl rfl dX0_isEnough_19 ?_
        refine M.getf (pc := 20) fg_X0_25 0 rfl rfl dX0_isEnough_20 ?_
        refine M.alenI (pc := 23) 2 rfl dX0_isEnough_23 ?_
        refine M.icmp_lt (pc := 24) (tgt := 29) dX0_isEnough_24 (by decide) (by omega) (by omega) (fun c24 => ?_) (fun c24 => ?_)
        · refine M.aloadn (pc := 29) 0 rfl rfl dX0_isEnough_29 ?_
          refine M.getf (pc := 30) fg_X0_25 0 rfl rfl dX0_isEnough_30 ?_
          refine M.iloadn (pc := 33) 1 rfl rfl dX0_isEnough_33 ?_
          refine M.iald (pc := 34) 2 rfl (by omega) (by omega) dX0_isEnough_34 ?_
          refine M.bipush (pc := 35) (by decide +kernel) dX0_isEnough_35 ?_
          refine M.iand (pc := 37) (and15 (by omega)) dX0_isEnough_37 ?_
          refine M.istoren (pc := 38) 3 rfl (Nat.le_of_ble_eq_true rfl) rfl dX0_isEnough_38 ?_
          dsimp only [List.set_cons_zero, List.set_cons_succ]
          refine M.aloadn (pc := 39) 0 rfl rfl dX0_isEnough_39 ?_
          refine M.getf (pc := 40) fg_X0_25 0 rfl rfl dX0_isEnough_40 ?_
          refine M.iloadn (pc := 43) 1 rfl rfl dX0_isEnough_43 ?_
          refine M.iald (pc := 44) 2 rfl (by omega) (by omega) dX0_isEnough_44 ?_
          refine M.iconst (pc := 45) dX0_isEnough_45 ?_
          refine M.ishr (pc := 46) (shr4 (by omega) (by omega)) dX0_isEnough_46 ?_
          refine M.istore (pc := 47) (i := 4) (Nat.le_of_ble_eq_true rfl) rfl dX0_isEnough_47 ?_
          dsimp only [List.set_cons_zero, List.set_cons_succ]
          have L75 : ∀ {r : Bool}, (r = true ↔ NL vt H q.toNat S) → V 0 0 75 [(t, eO 0 [.ref aL, .ref aU, .ref aP, .ref aK, .ref aN, .ref aH, .int (iI cu), .int (iI cp), .int (iI (pI (cb = true)))]), (aP, eI G 1664 wP), (aN, eI G 8192 wN)] [some (.ref t), none, none, none, none, none, none] [.int (iI (pI (r = true)))] := by
            intro r hr
            exact EI (r, wN) _ _ _ _ dX0_isEnough_75 (Or.inr ⟨rfl, by first | exact Or.inl rfl | exact Or.inr rfl | exact pI_01 _⟩) (rfl) (rfl) (⟨hr, hN⟩)
          refine M.iloadn (pc := 49) 2 rfl rfl dX0_isEnough_49 ?_
          refine M.iloadn (pc := 50) 3 rfl rfl dX0_isEnough_50 ?_
          refine M.icmp_le (pc := 51) (tgt := 65) dX0_isEnough_51 (by decide) (by omega) (by omega) (fun c51 => ?_) (fun c51 => ?_)
          · refine M.iloadn (pc := 65) 2 rfl rfl dX0_isEnough_65 ?_
            refine M.iloadn (pc := 66) 3 rfl rfl dX0_isEnough_66 ?_
            refine M.icmp_le (pc := 67) (tgt := 74) dX0_isEnough_67 (by decide) (by omega) (by omega) (fun c67 => ?_) (fun c67 => ?_)
            · refine M.iconst (pc := 74) dX0_isEnough_74 ?_
              refine M.forget 1 ?_
              dsimp only [List.set_cons_zero, List.set_cons_succ]
              refine M.forget 2 ?_
              dsimp only [List.set_cons_zero, List.set_cons_succ]
              refine M.forget 3 ?_
              dsimp only [List.set_cons_zero, List.set_cons_succ]
              refine M.forget 4 ?_
              dsimp only [List.set_cons_zero, List.set_cons_succ]
              exact L75 (r := false) (by exact ⟨fun z => absurd z (by decide), fun z => absurd (NL.up (by omega) z) (hkn.2.1 (by omega))⟩)
            · refine M.iconst (pc := 70) dX0_isEnough_70 ?_
              refine M.goto (pc := 71) (tgt := 75) dX0_isEnough_71 (by decide) ?_
              refine M.forget 1 ?_
              dsimp only [List.set_cons_zero, List.set_cons_succ]
              refine M.forget 2 ?_
              dsimp only [List.set_cons_zero, List.set_cons_succ]
              refine M.forget 3 ?_
              dsimp only [List.set_cons_zero, List.set_cons_succ]
              refine M.forget 4 ?_
              dsimp only [List.set_cons_zero, List.set_cons_succ]
              exact L75 (r := true) (by exact ⟨fun _ => (by first | exact absurd c51 (by omega) | exact (hkn.2.2 c56).up (by omega)), fun _ => rfl⟩)
          · refine M.iload (pc := 54) (i := 4) rfl dX0_isEnough_54 ?_
            refine M.if_eq (pc := 56) (tgt := 76) dX0_isEnough_56 (by decide) (by omega) (fun c56 => ?_) (fun c56 => ?_)
            · refine M.iconst (pc := 76) dX0_isEnough_76 ?_
              refine M.istore (pc := 77) (i := 5) (Nat.le_of_ble_eq_true rfl) rfl dX0_isEnough_77 ?_
              dsimp only [List.set_cons_zero, List.set_cons_succ]
              refine M.iconst (pc := 79) dX0_isEnough_79 ?_
              refine M.istore (pc := 80) (i := 6) (Nat.le_of_ble_eq_true rfl) rfl dX0_isEnough_80 ?_
              dsimp only [List.set_cons_zero, List.set_cons_succ]
              have L82 : ∀ (fu : Nat) {f : Bool} {u : Int} {N2 : Int → Int}, (0 ≤ u ∧ u ≤ cu) → ((f = true → NL vt H q.toNat S) ∧ (f = false → ∀ v, 0 ≤ v → v < u → ¬ OKP vt H (U v) S (q - 1).toNat)) → (KN n vt H N2) → (cu - u).toNat < fu → V 0 0 82 [(t, eO 0 [.ref aL, .ref aU, .ref aP, .ref aK, .ref aN, .ref aH, .int (iI cu), .int (iI cp), .int (iI (pI (cb = true)))]), (aP, eI G 1664 wP), (aN, eI G 8192 N2)] [some (.ref t), some (.int (iI S)), some (.int (iI q)), some (.int (iI (wN S % 16))), some (.int (iI (wN S / 16))), some (.int (iI (pI (f = true)))), some (.int (iI u))] [] := by
                intro fu
                induction fu with
                | zero => intro f u N2 hu hf hN2 hm; exact absurd hm (Nat.not_lt_zero _)
                | succ fu ih82 =>
                  intro f u N2 hu hf hN2 hm82
                  refine M.iload (pc := 82) (i := 5) rfl dX0_isEnough_82 ?_
                  have L114 : (f = true ↔ NL vt H q.toNat S) → V 0 0 114 [(t, eO 0 [.ref aL, .ref aU, .ref aP, .ref aK, .ref aN, .ref aH, .int (iI cu), .int (iI cp), .int (iI (pI (cb = true)))]), (aP, eI G 1664 wP), (aN, eI G 8192 N2)] [some (.ref t), some (.int (iI S)), some (.int (iI q)), some (.int (iI (wN S % 16))), some (.int (iI (wN S / 16))), some (.int (iI (pI (f = true)))), some (.int (iI u))] [] := by
                    intro  hfin
                    refine M.aloadn (pc := 114) 0 rfl rfl dX0_isEnough_114 ?_
                    refine M.getf (pc := 115) fg_X0_25 0 rfl rfl dX0_isEnough_115 ?_
                    have L138 : ∀ {val : Int}, (KN n vt H (upZ N2 S val)) → V 0 0 138 [(t, eO 0 [.ref aL, .ref aU, .ref aP, .ref aK, .ref aN, .ref aH, .int (iI cu), .int (iI cp), .int (iI (pI (cb = true)))]), (aP, eI G 1664 wP), (aN, eI G 8192 N2)] [some (.ref t), some (.int (iI S)), some (.int (iI q)), some (.int (iI (wN S % 16))), some (.int (iI (wN S / 16))), some (.int (iI (pI (f = true)))), some (.int (iI u))] [.int (iI val), .int (iI S), .ref aN] := by
                      intro val hval
                      refine M.iast (pc := 138) 2 rfl (by omega) (by omega) dX0_isEnough_138 ?_
                      dsimp only [List.set_cons_zero, List.set_cons_succ]
                      refine M.iload (pc := 139) (i := 5) rfl dX0_isEnough_139 ?_
                      exact EI (f, upZ N2 S val) _ _ _ _ dX0_isEnough_141 (Or.inr ⟨rfl, by first | exact Or.inl rfl | exact Or.inr rfl | exact pI_01 _⟩) (rfl) (rfl) (⟨hfin, hval⟩)
                    refine M.iloadn (pc := 118) 1 rfl rfl dX0_isEnough_118 ?_
                    refine M.iload (pc := 119) (i := 5) rfl dX0_isEnough_119 ?_
                    refine M.if_eqP (pc := 121) (tgt := 132) dX0_isEnough_121 (by decide) (fun c121 => ?_) (fun c121 => ?_)
                    · refine M.iloadn (pc := 132) 2 rfl rfl dX0_isEnough_132 ?_
                      refine M.iload (pc := 133) (i := 4) rfl dX0_isEnough_133 ?_
                      refine M.iconst (pc := 135) dX0_isEnough_135 ?_
                      refine M.ishl (pc := 136) (sh4 (by omega)) dX0_isEnough_136 ?_
                      refine M.ior (pc := 137) (or4 (by omega) (by omega)) dX0_isEnough_137 ?_
                      have e1 : (q + wN S / 16 * 16) % 16 = q := by omega
                      have e2 : (q + wN S / 16 * 16) / 16 = wN S / 16 := by omega
                      exact L138  (by exact hN2.up (by rw [e1, e2]; omega) (by rw [e1]; exact fun _ z => c121 (hfin.mpr z)) (by rw [e2]; exact hkn.2.2))
                    · refine M.iloadn (pc := 124) 3 rfl rfl dX0_isEnough_124 ?_
                      refine M.iloadn (pc := 125) 2 rfl rfl dX0_isEnough_125 ?_
                      refine M.iconst (pc := 126) dX0_isEnough_126 ?_
                      refine M.ishl (pc := 127) (sh4 (by omega)) dX0_isEnough_127 ?_
                      refine M.ior (pc := 128) (or4 (by omega) (by omega)) dX0_isEnough_128 ?_
                      refine M.goto (pc := 129) (tgt := 138) dX0_isEnough_129 (by decide) ?_
                      have e1 : (wN S % 16 + q * 16) % 16 = wN S % 16 := by omega
                      have e2 : (wN S % 16 + q * 16) / 16 = q := by omega
                      exact L138  (by exact hN2.up (by rw [e1, e2]; omega) (by rw [e1]; exact hkn.2.1) (by rw [e2]; exact fun _ => hfin.mp c121))
                  refine M.if_neP (pc := 84) (tgt := 114) dX0_isEnough_84 (by decide) (fun c84 => ?_) (fun c84 => ?_)
                  · exact L114  (by exact ⟨fun _ => hf.1 c84, fun _ => c84⟩)
                  · refine M.iload (pc := 87) (i := 6) rfl dX0_isEnough_87 ?_
                    refine M.aloadn (pc := 89) 0 rfl rfl dX0_isEnough_89 ?_
                    refine M.getf (pc := 90) fg_X0_43 0 rfl rfl dX0_isEnough_90 ?_
                    refine M.icmp_ge (pc := 93) (tgt := 114) dX0_isEnough_93 (by decide) (by omega) (by omega) (fun c93 => ?_) (fun c93 => ?_)
                    · exact L114  (by exact ⟨fun z => absurd z c84, fun z => absurd (NL.okp (by omega) (hn0 c5) z) (fun ⟨s, h1, h2⟩ => (hE.cov hn hM.1 h1 h2).elim (fun v hv => hf.2 (Bool.eq_false_iff.mpr c84) v hv.1.1 (by omega) hv.2.2))⟩)
                    · refine M.aloadn (pc := 96) 0 rfl rfl dX0_isEnough_96 ?_
                      refine M.iload (pc := 97) (i := 6) rfl dX0_isEnough_97 ?_
                      refine M.iloadn (pc := 99) 1 rfl rfl dX0_isEnough_99 ?_
                      refine M.iloadn (pc := 100) 2 rfl rfl dX0_isEnough_100 ?_
                      refine M.iconst (pc := 101) dX0_isEnough_101 ?_
                      refine M.isub (pc := 102) dX0_isEnough_102 ?_
                      refine M.mS (pc := 103) (c_X0_partsEnough_5 (n := n) (U := U) (H := H) (vt := vt) (by first | assumption | omega) (by exact hE) (by exact hS) (by exact hM) (by omega) (by exact hN2) (by omega)) ms_X0_118 [0, 1, 2] rfl rfl rfl rfl (Nat.le_of_ble_eq_true rfl) rfl ⟨(Nat.le_of_ble_eq_true rfl), (Nat.le_of_ble_eq_true rfl)⟩ ⟨(Nat.le_of_ble_eq_true rfl), (Nat.le_of_ble_eq_true rfl)⟩ rfl (fun _ => rfl) dX0_isEnough_103 (fun u103 hu103 => ?_)
                      obtain ⟨r103, N103⟩ := u103
                      dsimp only [putL, List.set_cons_zero, List.set_cons_succ, Option.toList, List.cons_append, List.nil_append] at hu103 ⊢
                      refine M.istore (pc := 106) (i := 5) (Nat.le_of_ble_eq_true rfl) rfl dX0_isEnough_106 ?_
                      dsimp only [List.set_cons_zero, List.set_cons_succ]
                      refine M.iinc (pc := 108) (i := 6) rfl rfl dX0_isEnough_108 ?_
                      dsimp only [List.set_cons_zero, List.set_cons_succ]
                      refine M.goto (pc := 111) (tgt := 82) dX0_isEnough_111 (by decide) ?_
                      exact ih82  (by first | assumption | omega) (by exact ⟨fun z => OKP.nl (by omega) (hE.2.1 u hu.1 (by omega)).1 (hu103.1.mp z), fun z v h0 h1 => (by omega : v < u ∨ v = u).elim (fun w => hf.2 (Bool.eq_false_iff.mpr c84) v h0 w) (fun w y => absurd (hu103.1.mpr (by rw [← w]; exact y)) (by show ¬ r103 = true; rw [show r103 = false from z]; decide))⟩) (by exact hu103.2) (by omega)
              exact L82 _ (f := false) (by first | assumption | omega) (by exact ⟨fun z => absurd z (by decide), fun _ v _ h => by omega⟩) (by first | assumption | omega) (Nat.lt_succ_self _)
            · refine M.iloadn (pc := 59) 2 rfl rfl dX0_isEnough_59 ?_
              refine M.iload (pc := 60) (i := 4) rfl dX0_isEnough_60 ?_
              refine M.icmp_lt (pc := 62) (tgt := 76) dX0_isEnough_62 (by decide) (by omega) (by omega) (fun c62 => ?_) (fun c62 => ?_)
              · refine M.iconst (pc := 76) dX0_isEnough_76 ?_
                refine M.istore (pc := 77) (i := 5) (Nat.le_of_ble_eq_true rfl) rfl dX0_isEnough_77 ?_
                dsimp only [List.set_cons_zero, List.set_cons_succ]
                refine M.iconst (pc := 79) dX0_isEnough_79 ?_
                refine M.istore (pc := 80) (i := 6) (Nat.le_of_ble_eq_true rfl) rfl dX0_isEnough_80 ?_
                dsimp only [List.set_cons_zero, List.set_cons_succ]
                have L82 : ∀ (fu : Nat) {f : Bool} {u : Int} {N2 : Int → Int}, (0 ≤ u ∧ u ≤ cu) → ((f = true → NL vt H q.toNat S) ∧ (f = false → ∀ v, 0 ≤ v → v < u → ¬ OKP vt H (U v) S (q - 1).toNat)) → (KN n vt H N2) → (cu - u).toNat < fu → V 0 0 82 [(t, eO 0 [.ref aL, .ref aU, .ref aP, .ref aK, .ref aN, .ref aH, .int (iI cu), .int (iI cp), .int (iI (pI (cb = true)))]), (aP, eI G 1664 wP), (aN, eI G 8192 N2)] [some (.ref t), some (.int (iI S)), some (.int (iI q)), some (.int (iI (wN S % 16))), some (.int (iI (wN S / 16))), some (.int (iI (pI (f = true)))), some (.int (iI u))] [] := by
                  intro fu
                  induction fu with
                  | zero => intro f u N2 hu hf hN2 hm; exact absurd hm (Nat.not_lt_zero _)
                  | succ fu ih82 =>
                    intro f u N2 hu hf hN2 hm82
                    refine M.iload (pc := 82) (i := 5) rfl dX0_isEnough_82 ?_
                    have L114 : (f = true ↔ NL vt H q.toNat S) → V 0 0 114 [(t, eO 0 [.ref aL, .ref aU, .ref aP, .ref aK, .ref aN, .ref aH, .int (iI cu), .int (iI cp), .int (iI (pI (cb = true)))]), (aP, eI G 1664 wP), (aN, eI G 8192 N2)] [some (.ref t), some (.int (iI S)), some (.int (iI q)), some (.int (iI (wN S % 16))), some (.int (iI (wN S / 16))), some (.int (iI (pI (f = true)))), some (.int (iI u))] [] := by
                      intro  hfin
                      refine M.aloadn (pc := 114) 0 rfl rfl dX0_isEnough_114 ?_
                      refine M.getf (pc := 115) fg_X0_25 0 rfl rfl dX0_isEnough_115 ?_
                      have L138 : ∀ {val : Int}, (KN n vt H (upZ N2 S val)) → V 0 0 138 [(t, eO 0 [.ref aL, .ref aU, .ref aP, .ref aK, .ref aN, .ref aH, .int (iI cu), .int (iI cp), .int (iI (pI (cb = true)))]), (aP, eI G 1664 wP), (aN, eI G 8192 N2)] [some (.ref t), some (.int (iI S)), some (.int (iI q)), some (.int (iI (wN S % 16))), some (.int (iI (wN S / 16))), some (.int (iI (pI (f = true)))), some (.int (iI u))] [.int (iI val), .int (iI S), .ref aN] := by
                        intro val hval
                        refine M.iast (pc := 138) 2 rfl (by omega) (by omega) dX0_isEnough_138 ?_
                        dsimp only [List.set_cons_zero, List.set_cons_succ]
                        refine M.iload (pc := 139) (i := 5) rfl dX0_isEnough_139 ?_
                        exact EI (f, upZ N2 S val) _ _ _ _ dX0_isEnough_141 (Or.inr ⟨rfl, by first | exact Or.inl rfl | exact Or.inr rfl | exact pI_01 _⟩) (rfl) (rfl) (⟨hfin, hval⟩)
                      refine M.iloadn (pc := 118) 1 rfl rfl dX0_isEnough_118 ?_
                      refine M.iload (pc := 119) (i := 5) rfl dX0_isEnough_119 ?_
                      refine M.if_eqP (pc := 121) (tgt := 132) dX0_isEnough_121 (by decide) (fun c121 => ?_) (fun c121 => ?_)
                      · refine M.iloadn (pc := 132) 2 rfl rfl dX0_isEnough_132 ?_
                        refine M.iload (pc := 133) (i := 4) rfl dX0_isEnough_133 ?_
                        refine M.iconst (pc := 135) dX0_isEnough_135 ?_
                        refine M.ishl (pc := 136) (sh4 (by omega)) dX0_isEnough_136 ?_
                        refine M.ior (pc := 137) (or4 (by omega) (by omega)) dX0_isEnough_137 ?_
                        have e1 : (q + wN S / 16 * 16) % 16 = q := by omega
                        have e2 : (q + wN S / 16 * 16) / 16 = wN S / 16 := by omega
                        exact L138  (by exact hN2.up (by rw [e1, e2]; omega) (by rw [e1]; exact fun _ z => c121 (hfin.mpr z)) (by rw [e2]; exact hkn.2.2))
                      · refine M.iloadn (pc := 124) 3 rfl rfl dX0_isEnough_124 ?_
                        refine M.iloadn (pc := 125) 2 rfl rfl dX0_isEnough_125 ?_
                        refine M.iconst (pc := 126) dX0_isEnough_126 ?_
                        refine M.ishl (pc := 127) (sh4 (by omega)) dX0_isEnough_127 ?_
                        refine M.ior (pc := 128) (or4 (by omega) (by omega)) dX0_isEnough_128 ?_
                        refine M.goto (pc := 129) (tgt := 138) dX0_isEnough_129 (by decide) ?_
                        have e1 : (wN S % 16 + q * 16) % 16 = wN S % 16 := by omega
                        have e2 : (wN S % 16 + q * 16) / 16 = q := by omega
                        exact L138  (by exact hN2.up (by rw [e1, e2]; omega) (by rw [e1]; exact hkn.2.1) (by rw [e2]; exact fun _ => hfin.mp c121))
                    refine M.if_neP (pc := 84) (tgt := 114) dX0_isEnough_84 (by decide) (fun c84 => ?_) (fun c84 => ?_)
                    · exact L114  (by exact ⟨fun _ => hf.1 c84, fun _ => c84⟩)
                    · refine M.iload (pc := 87) (i := 6) rfl dX0_isEnough_87 ?_
                      refine M.aloadn (pc := 89) 0 rfl rfl dX0_isEnough_89 ?_
                      refine M.getf (pc := 90) fg_X0_43 0 rfl rfl dX0_isEnough_90 ?_
                      refine M.icmp_ge (pc := 93) (tgt := 114) dX0_isEnough_93 (by decide) (by omega) (by omega) (fun c93 => ?_) (fun c93 => ?_)
                      · exact L114  (by exact ⟨fun z => absurd z c84, fun z => absurd (NL.okp (by omega) (hn0 c5) z) (fun ⟨s, h1, h2⟩ => (hE.cov hn hM.1 h1 h2).elim (fun v hv => hf.2 (Bool.eq_false_iff.mpr c84) v hv.1.1 (by omega) hv.2.2))⟩)
                      · refine M.aloadn (pc := 96) 0 rfl rfl dX0_isEnough_96 ?_
                        refine M.iload (pc := 97) (i := 6) rfl dX0_isEnough_97 ?_
                        refine M.iloadn (pc := 99) 1 rfl rfl dX0_isEnough_99 ?_
                        refine M.iloadn (pc := 100) 2 rfl rfl dX0_isEnough_100 ?_
                        refine M.iconst (pc := 101) dX0_isEnough_101 ?_
                        refine M.isub (pc := 102) dX0_isEnough_102 ?_
                        refine M.mS (pc := 103) (c_X0_partsEnough_5 (n := n) (U := U) (H := H) (vt := vt) (by first | assumption | omega) (by exact hE) (by exact hS) (by exact hM) (by omega) (by exact hN2) (by omega)) ms_X0_118 [0, 1, 2] rfl rfl rfl rfl (Nat.le_of_ble_eq_true rfl) rfl ⟨(Nat.le_of_ble_eq_true rfl), (Nat.le_of_ble_eq_true rfl)⟩ ⟨(Nat.le_of_ble_eq_true rfl), (Nat.le_of_ble_eq_true rfl)⟩ rfl (fun _ => rfl) dX0_isEnough_103 (fun u103 hu103 => ?_)
                        obtain ⟨r103, N103⟩ := u103
                        dsimp only [putL, List.set_cons_zero, List.set_cons_succ, Option.toList, List.cons_append, List.nil_append] at hu103 ⊢
                        refine M.istore (pc := 106) (i := 5) (Nat.le_of_ble_eq_true rfl) rfl dX0_isEnough_106 ?_
                        dsimp only [List.set_cons_zero, List.set_cons_succ]
                        refine M.iinc (pc := 108) (i := 6) rfl rfl dX0_isEnough_108 ?_
                        dsimp only [List.set_cons_zero, List.set_cons_succ]
                        refine M.goto (pc := 111) (tgt := 82) dX0_isEnough_111 (by decide) ?_
                        exact ih82  (by first | assumption | omega) (by exact ⟨fun z => OKP.nl (by omega) (hE.2.1 u hu.1 (by omega)).1 (hu103.1.mp z), fun z v h0 h1 => (by omega : v < u ∨ v = u).elim (fun w => hf.2 (Bool.eq_false_iff.mpr c84) v h0 w) (fun w y => absurd (hu103.1.mpr (by rw [← w]; exact y)) (by show ¬ r103 = true; rw [show r103 = false from z]; decide))⟩) (by exact hu103.2) (by omega)
                exact L82 _ (f := false) (by first | assumption | omega) (by exact ⟨fun z => absurd z (by decide), fun _ v _ h => by omega⟩) (by first | assumption | omega) (Nat.lt_succ_self _)
              · refine M.iloadn (pc := 65) 2 rfl rfl dX0_isEnough_65 ?_
                refine M.iloadn (pc := 66) 3 rfl rfl dX0_isEnough_66 ?_
                refine M.icmp_le (pc := 67) (tgt := 74) dX0_isEnough_67 (by decide) (by omega) (by omega) (fun c67 => ?_) (fun c67 => ?_)
                · refine M.iconst (pc := 74) dX0_isEnough_74 ?_
                  refine M.forget 1 ?_
                  dsimp only [List.set_cons_zero, List.set_cons_succ]
                  refine M.forget 2 ?_
                  dsimp only [List.set_cons_zero, List.set_cons_succ]
                  refine M.forget 3 ?_
                  dsimp only [List.set_cons_zero, List.set_cons_succ]
                  refine M.forget 4 ?_
                  dsimp only [List.set_cons_zero, List.set_cons_succ]
                  exact L75 (r := false) (by exact ⟨fun z => absurd z (by decide), fun z => absurd (NL.up (by omega) z) (hkn.2.1 (by omega))⟩)
                · refine M.iconst (pc := 70) dX0_isEnough_70 ?_
                  refine M.goto (pc := 71) (tgt := 75) dX0_isEnough_71 (by decide) ?_
                  refine M.forget 1 ?_
                  dsimp only [List.set_cons_zero, List.set_cons_succ]
                  refine M.forget 2 ?_
                  dsimp only [List.set_cons_zero, List.set_cons_succ]
                  refine M.forget 3 ?_
                  dsimp only [List.set_cons_zero, List.set_cons_succ]
                  refine M.forget 4 ?_
                  dsimp only [List.set_cons_zero, List.set_cons_succ]
                  exact L75 (r := true) (by exact ⟨fun _ => (by first | exact absurd c51 (by omega) | exact (hkn.2.2 c56).up (by omega)), fun _ => rfl⟩)
        · exact absurd c24 (by omega)
  · refine M.iconst (pc := 8) dX0_isEnough_8 ?_
    exact EI (true, wN) _ _ _ _ dX0_isEnough_9 (Or.inr ⟨rfl, by first | exact Or.inl rfl | exact Or.inr rfl | exact pI_01 _⟩) (rfl) (rfl) (⟨⟨fun _ => NL.up (Nat.zero_le _) (show NL vt H 0 S from hy0 c5), fun _ => rfl⟩, hN⟩)
set_option maxHeartbeats 4000000 in
set_option maxRecDepth 100000 in
theorem c_X0_partsEnough_6 {l : Launch} {G : GT} {t aL aU aP aK aN aH : Nat} {cu cp : Int} {cb : Bool} {wP : Int → Int} {wN : Int → Int} {U : Int → Int} {H : Int → Int → Int} {n : Int} {vt : Int → Prop} {u S q : Int} (hn : 0 ≤ n ∧ n ≤ 6) (hE : TBE n vt H cu U wP) (hS : 0 ≤ S ∧ S < 8192) (hM : MGD n vt H S) (hq : 0 ≤ q ∧ q ≤ 6) (hN : KN n vt H wN) (hu : 0 ≤ u ∧ u < cu) : Con l G yX0_partsEnough cX0_partsEnough 7 (some .boolean) { frames := 13, cells := 0, slots := 0, locals := 338 } [.ref t, .int (iI u), .int (iI S), .int (iI q)] [(t, eO 0 [.ref aL, .ref aU, .ref aP, .ref aK, .ref aN, .ref aH, .int (iI cu), .int (iI cp), .int (iI (pI (cb = true)))]), (aP, eI G 1664 wP), (aN, eI G 8192 wN)] (S := Bool × (Int → Int)) (fun u => some (.int (iI (pI (u.1 = true))))) (fun u => [(t, eO 0 [.ref aL, .ref aU, .ref aP, .ref aK, .ref aN, .ref aH, .int (iI cu), .int (iI cp), .int (iI (pI (cb = true)))]), (aP, eI G 1664 wP), (aN, eI G 8192 u.2)]) (fun x => (x.1 = true ↔ OKP vt H (U u) S q.toNat) ∧ KN n vt H x.2) := by
  refine Con.mk (by decide +kernel) [some (.ref t), some (.int (iI u)), some (.int (iI S)), some (.int (iI q)), none, none, none] rfl (Nat.le_of_ble_eq_true rfl) rfl ?_
  intro V M EI EL EV EA
  have hEc := hE.1
  obtain ⟨hvt, J, hJ, hj, hz, hx⟩ := hE.2.1 u hu.1 hu.2
  refine M.iloadn (pc := 0) 1 rfl rfl dX0_partsEnough_0 ?_
  refine M.bipush (pc := 1) (by decide +kernel) dX0_partsEnough_1 ?_
  refine M.imul (pc := 3) dX0_partsEnough_3 ?_
  refine M.istore (pc := 4) (i := 4) (Nat.le_of_ble_eq_true rfl) rfl dX0_partsEnough_4 ?_
  dsimp only [List.set_cons_zero, List.set_cons_succ]
  have L6 : ∀ (fu : Nat) {j : Int} {N2 : Int → Int}, (0 ≤ j ∧ j ≤ J) → (∀ i, 0 ≤ i → i < j → land S (wP (u * 13 + i)) ≠ S ∧ NL vt H q.toNat (land S (wP (u * 13 + i)))) → (KN n vt H N2) → (13 - j).toNat < fu → V 0 0 6 [(t, eO 0 [.ref aL, .ref aU, .ref aP, .ref aK, .ref aN, .ref aH, .int (iI cu), .int (iI cp), .int (iI (pI (cb = true)))]), (aP, eI G 1664 wP), (aN, eI G 8192 N2)] [some (.ref t), some (.int (iI u)), some (.int (iI S)), some (.int (iI q)), some (.int (iI (u * 13 + j))), none, none] [] := by
    intro fu
    induction fu with
    | zero => intro j N2 hjj hok hN2 hm; exact absurd hm (Nat.not_lt_zero _)
    | succ fu ih6 =>
      intro j N2 hjj hok hN2 hm6
      refine M.iload (pc := 6) (i := 4) rfl dX0_partsEnough_6 ?_
      refine M.iloadn (pc := 8) 1 rfl rfl dX0_partsEnough_8 ?_
      refine M.iconst (pc := 9) dX0_partsEnough_9 ?_
      refine M.iadd (pc := 10) dX0_partsEnough_10 ?_
      refine M.bipush (pc := 11) (by decide +kernel) dX0_partsEnough_11 ?_
      refine M.imul (pc := 13) dX0_partsEnough_13 ?_
      refine M.icmp_ge (pc := 14) (tgt := 82) dX0_partsEnough_14 (by decide) (by omega) (by omega) (fun c14 => ?_) (fun c14 => ?_)
      · refine M.iconst (pc := 82) dX0_partsEnough_82 ?_
        exact EI (true, N2) _ _ _ _ dX0_partsEnough_83 (Or.inr ⟨rfl, by first | exact Or.inl rfl | exact Or.inr rfl | exact pI_01 _⟩) (rfl) (rfl) (⟨⟨fun _ => OKP.of hS hM.1 hx (by rw [show J = j by omega]; exact hok), fun _ => rfl⟩, hN2⟩)
      · refine M.iload (pc := 17) (i := 4) rfl dX0_partsEnough_17 ?_
        refine M.if_lt (pc := 19) (tgt := 42) dX0_partsEnough_19 (by decide) (by omega) (fun c19 => ?_) (fun c19 => ?_)
        · exact absurd c19 (by omega)
        · refine M.iload (pc := 22) (i := 4) rfl dX0_partsEnough_22 ?_
          refine M.aloadn (pc := 24) 0 rfl rfl dX0_partsEnough_24 ?_
          refine M.getf (pc := 25) fg_X0_19 0 rfl rfl dX0_partsEnough_25 ?_
          refine M.alenI (pc := 28) 1 rfl dX0_partsEnough_28 ?_
          refine M.icmp_ge (pc := 29) (tgt := 42) dX0_partsEnough_29 (by decide) (by omega) (by omega) (fun c29 => ?_) (fun c29 => ?_)
          · exact absurd c29 (by omega)
          · refine M.aloadn (pc := 32) 0 rfl rfl dX0_partsEnough_32 ?_
            refine M.getf (pc := 33) fg_X0_19 0 rfl rfl dX0_partsEnough_33 ?_
            refine M.iload (pc := 36) (i := 4) rfl dX0_partsEnough_36 ?_
            refine M.iald (pc := 38) 1 rfl (by omega) (by omega) dX0_partsEnough_38 ?_
            refine M.goto (pc := 39) (tgt := 43) dX0_partsEnough_39 (by decide) ?_
            refine M.istore (pc := 43) (i := 5) (Nat.le_of_ble_eq_true rfl) rfl dX0_partsEnough_43 ?_
            dsimp only [List.set_cons_zero, List.set_cons_succ]
            have hwb : (0 ≤ wP (u * 13 + j) ∧ wP (u * 13 + j) < 8192) ∧ (wP (u * 13 + j) = 0 → j = J) := by
              rcases (by omega : j < J ∨ j = J) with w | w
              · obtain ⟨h1, x, h2, h3⟩ := hj j hjj.1 w
                have h4 : 0 ≤ PT H (U u) (cm (prB n) 13) x ∧ PT H (U u) (cm (prB n) 13) x < 8192 := cm_13b _
                exact ⟨by rw [h3]; exact h4, fun z => absurd z h1⟩
              · have h5 := hz (by omega)
                rw [w, h5]
                exact ⟨by omega, fun _ => rfl⟩
            refine M.iload (pc := 45) (i := 5) rfl dX0_partsEnough_45 ?_
            refine M.if_ne (pc := 47) (tgt := 52) dX0_partsEnough_47 (by decide) (by omega) (fun c47 => ?_) (fun c47 => ?_)
            · have hjJ : j < J := by
                rcases (by omega : j < J ∨ j = J) with w | w
                · exact w
                · exact absurd (by rw [w]; exact hz (by omega)) c47
              have hll := land_b (a := S) (b := wP (u * 13 + j)) hS.1 hwb.1.1
              refine M.iloadn (pc := 52) 2 rfl rfl dX0_partsEnough_52 ?_
              refine M.iload (pc := 53) (i := 5) rfl dX0_partsEnough_53 ?_
              refine M.iand (pc := 55) (land_ok hS.1 hwb.1.1) dX0_partsEnough_55 ?_
              have L74 : ∀ {N3 : Int → Int}, (¬ OKP vt H (U u) S q.toNat) → (KN n vt H N3) → V 0 0 74 [(t, eO 0 [.ref aL, .ref aU, .ref aP, .ref aK, .ref aN, .ref aH, .int (iI cu), .int (iI cp), .int (iI (pI (cb = true)))]), (aP, eI G 1664 wP), (aN, eI G 8192 N3)] [some (.ref t), none, none, none, none, none, none] [] := by
                intro N3 hno hN3
                refine M.iconst (pc := 74) dX0_partsEnough_74 ?_
                exact EI (false, N3) _ _ _ _ dX0_partsEnough_75 (Or.inr ⟨rfl, by first | exact Or.inl rfl | exact Or.inr rfl | exact pI_01 _⟩) (rfl) (rfl) (⟨⟨fun z => absurd (show false = true from z) (by decide), fun z => absurd z hno⟩, hN3⟩)
              refine M.istore (pc := 56) (i := 6) (Nat.le_of_ble_eq_true rfl) rfl dX0_partsEnough_56 ?_
              dsimp only [List.set_cons_zero, List.set_cons_succ]
              refine M.iload (pc := 58) (i := 6) rfl dX0_partsEnough_58 ?_
              refine M.iloadn (pc := 60) 2 rfl rfl dX0_partsEnough_60 ?_
              refine M.icmp_eq (pc := 61) (tgt := 74) dX0_partsEnough_61 (by decide) (by omega) (by omega) (fun c61 => ?_) (fun c61 => ?_)
              · refine M.forget 1 ?_
                dsimp only [List.set_cons_zero, List.set_cons_succ]
                refine M.forget 2 ?_
                dsimp only [List.set_cons_zero, List.set_cons_succ]
                refine M.forget 3 ?_
                dsimp only [List.set_cons_zero, List.set_cons_succ]
                refine M.forget 4 ?_
                dsimp only [List.set_cons_zero, List.set_cons_succ]
                refine M.forget 5 ?_
                dsimp only [List.set_cons_zero, List.set_cons_succ]
                refine M.forget 6 ?_
                dsimp only [List.set_cons_zero, List.set_cons_succ]
                exact L74  (by exact OKP.no hS hM.1 (hj j hjj.1 hjJ).2 (Or.inl c61)) (by exact hN2)
              · refine M.aloadn (pc := 64) 0 rfl rfl dX0_partsEnough_64 ?_
                refine M.iload (pc := 65) (i := 6) rfl dX0_partsEnough_65 ?_
                refine M.iloadn (pc := 67) 3 rfl rfl dX0_partsEnough_67 ?_
                refine M.mS (pc := 68) (c_X0_isEnough_6 (n := n) (U := U) (H := H) (vt := vt) (by first | assumption | omega) (by exact hE) (by omega) (by exact hM.sub (fun d hd => (me_land hd).1)) (by exact hq) (by exact hN2)) ms_X0_114 [0, 1, 2] rfl rfl rfl rfl (Nat.le_of_ble_eq_true rfl) rfl ⟨(Nat.le_of_ble_eq_true rfl), (Nat.le_of_ble_eq_true rfl)⟩ ⟨(Nat.le_of_ble_eq_true rfl), (Nat.le_of_ble_eq_true rfl)⟩ rfl (fun _ => rfl) dX0_partsEnough_68 (fun u68 hu68 => ?_)
                obtain ⟨r68, N68⟩ := u68
                dsimp only [putL, List.set_cons_zero, List.set_cons_succ, Option.toList, List.cons_append, List.nil_append] at hu68 ⊢
                refine M.if_neP (pc := 71) (tgt := 76) dX0_partsEnough_71 (by decide) (fun c71 => ?_) (fun c71 => ?_)
                · refine M.iinc (pc := 76) (i := 4) rfl rfl dX0_partsEnough_76 ?_
                  dsimp only [List.set_cons_zero, List.set_cons_succ]
                  refine M.goto (pc := 79) (tgt := 6) dX0_partsEnough_79 (by decide) ?_
                  refine M.forget 5 ?_
                  dsimp only [List.set_cons_zero, List.set_cons_succ]
                  refine M.forget 6 ?_
                  dsimp only [List.set_cons_zero, List.set_cons_succ]
                  rw [show u * 13 + j + 1 = u * 13 + (j + 1) by omega]
                  exact ih6  (by first | assumption | omega) (by intro i h0 h1; rcases (by omega : i < j ∨ i = j) with w | w; exact hok i h0 w; rw [w]; exact ⟨c61, hu68.1.mp c71⟩) (by exact hu68.2) (by omega)
                · refine M.forget 1 ?_
                  dsimp only [List.set_cons_zero, List.set_cons_succ]
                  refine M.forget 2 ?_
                  dsimp only [List.set_cons_zero, List.set_cons_succ]
                  refine M.forget 3 ?_
                  dsimp only [List.set_cons_zero, List.set_cons_succ]
                  refine M.forget 4 ?_
                  dsimp only [List.set_cons_zero, List.set_cons_succ]
                  refine M.forget 5 ?_
                  dsimp only [List.set_cons_zero, List.set_cons_succ]
                  refine M.forget 6 ?_
                  dsimp only [List.set_cons_zero, List.set_cons_succ]
                  exact L74  (by exact OKP.no hS hM.1 (hj j hjj.1 hjJ).2 (Or.inr (fun z => c71 (hu68.1.mpr z)))) (by exact hu68.2)
            · refine M.iconst (pc := 50) dX0_partsEnough_50 ?_
              exact EI (true, N2) _ _ _ _ dX0_partsEnough_51 (Or.inr ⟨rfl, by first | exact Or.inl rfl | exact Or.inr rfl | exact pI_01 _⟩) (rfl) (rfl) (⟨⟨fun _ => OKP.of hS hM.1 hx (by rw [← hwb.2 c47]; exact hok), fun _ => rfl⟩, hN2⟩)
  rw [show u * 13 = u * 13 + 0 by omega]
  exact L6 _ (j := 0) (by first | assumption | omega) (by intro i _ h; omega) (by first | assumption | omega) (Nat.lt_succ_self _)
set_option maxHeartbeats 4000000 in
set_option maxRecDepth 100000 in
theorem c_X0_isEnough_7 {l : Launch} {G : GT} {t aL aU aP aK aN aH : Nat} {cu cp : Int} {cb : Bool} {wP : Int → Int} {wN : Int → Int} {U : Int → Int} {H : Int → Int → Int} {n : Int} {vt : Int → Prop} {S q : Int} (hn : 0 ≤ n ∧ n ≤ 6) (hE : TBE n vt H cu U wP) (hS : 0 ≤ S ∧ S < 8192) (hM : MGD n vt H S) (hq : 0 ≤ q ∧ q ≤ 7) (hN : KN n vt H wN) : Con l G yX0_isEnough cX0_isEnough 7 (some .boolean) { frames := 14, cells := 0, slots := 0, locals := 364 } [.ref t, .int (iI S), .int (iI q)] [(t, eO 0 [.ref aL, .ref aU, .ref aP, .ref aK, .ref aN, .ref aH, .int (iI cu), .int (iI cp), .int (iI (pI (cb = true)))]), (aP, eI G 1664 wP), (aN, eI G 8192 wN)] (S := Bool × (Int → Int)) (fun u => some (.int (iI (pI (u.1 = true))))) (fun u => [(t, eO 0 [.ref aL, .ref aU, .ref aP, .ref aK, .ref aN, .ref aH, .int (iI cu), .int (iI cp), .int (iI (pI (cb = true)))]), (aP, eI G 1664 wP), (aN, eI G 8192 u.2)]) (fun u => (u.1 = true ↔ NL vt H q.toNat S) ∧ KN n vt H u.2) := by
  refine Con.mk (by decide +kernel) [some (.ref t), some (.int (iI S)), some (.int (iI q)), none, none, none, none] rfl (Nat.le_of_ble_eq_true rfl) rfl ?_
  intro V M EI EL EV EA
  obtain ⟨h1a, h1b, h1c, h1d⟩ := one_ok hS
  have hkn := hN S hS hM
  have hkb := hkn.1
  have hEc := hE.1
  have hy0 : sub1 S = 0 → NL0 vt H S := fun z c d hc hd => by rw [h1c z c d hc hd]; exact fun _ _ => rfl
  have hn0 : sub1 S ≠ 0 → ¬ NL0 vt H S := fun z w => by
    obtain ⟨c, d, hc, hd, hcd⟩ := h1d z
    exact hcd (hM.2 c d hc hd (w c d hc hd))
  refine M.iloadn (pc := 0) 1 rfl rfl dX0_isEnough_0 ?_
  refine M.iloadn (pc := 1) 1 rfl rfl dX0_isEnough_1 ?_
  refine M.iconst (pc := 2) dX0_isEnough_2 ?_
  refine M.isub (pc := 3) dX0_isEnough_3 ?_
  refine M.iand (pc := 4) (h1a) dX0_isEnough_4 ?_
  refine M.if_ne (pc := 5) (tgt := 10) dX0_isEnough_5 (by decide) (by omega) (fun c5 => ?_) (fun c5 => ?_)
  · refine M.iloadn (pc := 10) 2 rfl rfl dX0_isEnough_10 ?_
    refine M.if_le (pc := 11) (tgt := 27) dX0_isEnough_11 (by decide) (by omega) (fun c11 => ?_) (fun c11 => ?_)
    · refine M.iconst (pc := 27) dX0_isEnough_27 ?_
      exact EI (false, wN) _ _ _ _ dX0_isEnough_28 (Or.inr ⟨rfl, by first | exact Or.inl rfl | exact Or.inr rfl | exact pI_01 _⟩) (rfl) (rfl) (⟨⟨fun z => absurd (show false = true from z) (by decide), fun z => absurd (show NL vt H 0 S by rw [show q.toNat = 0 by omega] at z; exact z) (hn0 c5)⟩, hN⟩)
    · refine M.iloadn (pc := 14) 1 rfl rfl dX0_isEnough_14 ?_
      refine M.if_lt (pc := 15) (tgt := 27) dX0_isEnough_15 (by decide) (by omega) (fun c15 => ?_) (fun c15 => ?_)
      · exact absurd c15 (by omega)
      · refine M.iloadn (pc := 18) 1 rfl rfl dX0_isEnough_18 ?_
        refine M.aloadn (pc := 19) 0 rfl rfl dX0_isEnough_19 ?_
        refine M.getf (pc := 20) fg_X0_25 0 rfl rfl dX0_isEnough_20 ?_
        refine M.alenI (pc := 23) 2 rfl dX0_isEnough_23 ?_
        refine M.icmp_lt (pc := 24) (tgt := 29) dX0_isEnough_24 (by decide) (by omega) (by omega) (fun c24 => ?_) (fun c24 => ?_)
        · refine M.aloadn (pc := 29) 0 rfl rfl dX0_isEnough_29 ?_
          refine M.getf (pc := 30) fg_X0_25 0 rfl rfl dX0_isEnough_30 ?_
          refine M.iloadn (pc := 33) 1 rfl rfl dX0_isEnough_33 ?_
          refine M.iald (pc := 34) 2 rfl (by omega) (by omega) dX0_isEnough_34 ?_
          refine M.bipush (pc := 35) (by decide +kernel) dX0_isEnough_35 ?_
          refine M.iand (pc := 37) (and15 (by omega)) dX0_isEnough_37 ?_
          refine M.istoren (pc := 38) 3 rfl (Nat.le_of_ble_eq_true rfl) rfl dX0_isEnough_38 ?_
          dsimp only [List.set_cons_zero, List.set_cons_succ]
          refine M.aloadn (pc := 39) 0 rfl rfl dX0_isEnough_39 ?_
          refine M.getf (pc := 40) fg_X0_25 0 rfl rfl dX0_isEnough_40 ?_
          refine M.iloadn (pc := 43) 1 rfl rfl dX0_isEnough_43 ?_
          refine M.iald (pc := 44) 2 rfl (by omega) (by omega) dX0_isEnough_44 ?_
          refine M.iconst (pc := 45) dX0_isEnough_45 ?_
          refine M.ishr (pc := 46) (shr4 (by omega) (by omega)) dX0_isEnough_46 ?_
          refine M.istore (pc := 47) (i := 4) (Nat.le_of_ble_eq_true rfl) rfl dX0_isEnough_47 ?_
          dsimp only [List.set_cons_zero, List.set_cons_succ]
          have L75 : ∀ {r : Bool}, (r = true ↔ NL vt H q.toNat S) → V 0 0 75 [(t, eO 0 [.ref aL, .ref aU, .ref aP, .ref aK, .ref aN, .ref aH, .int (iI cu), .int (iI cp), .int (iI (pI (cb = true)))]), (aP, eI G 1664 wP), (aN, eI G 8192 wN)] [some (.ref t), none, none, none, none, none, none] [.int (iI (pI (r = true)))] := by
            intro r hr
            exact EI (r, wN) _ _ _ _ dX0_isEnough_75 (Or.inr ⟨rfl, by first | exact Or.inl rfl | exact Or.inr rfl | exact pI_01 _⟩) (rfl) (rfl) (⟨hr, hN⟩)
          refine M.iloadn (pc := 49) 2 rfl rfl dX0_isEnough_49 ?_
          refine M.iloadn (pc := 50) 3 rfl rfl dX0_isEnough_50 ?_
          refine M.icmp_le (pc := 51) (tgt := 65) dX0_isEnough_51 (by decide) (by omega) (by omega) (fun c51 => ?_) (fun c51 => ?_)
          · refine M.iloadn (pc := 65) 2 rfl rfl dX0_isEnough_65 ?_
            refine M.iloadn (pc := 66) 3 rfl rfl dX0_isEnough_66 ?_
            refine M.icmp_le (pc := 67) (tgt := 74) dX0_isEnough_67 (by decide) (by omega) (by omega) (fun c67 => ?_) (fun c67 => ?_)
            · refine M.iconst (pc := 74) dX0_isEnough_74 ?_
              refine M.forget 1 ?_
              dsimp only [List.set_cons_zero, List.set_cons_succ]
              refine M.forget 2 ?_
              dsimp only [List.set_cons_zero, List.set_cons_succ]
              refine M.forget 3 ?_
              dsimp only [List.set_cons_zero, List.set_cons_succ]
              refine M.forget 4 ?_
              dsimp only [List.set_cons_zero, List.set_cons_succ]
              exact L75 (r := false) (by exact ⟨fun z => absurd z (by decide), fun z => absurd (NL.up (by omega) z) (hkn.2.1 (by omega))⟩)
            · refine M.iconst (pc := 70) dX0_isEnough_70 ?_
              refine M.goto (pc := 71) (tgt := 75) dX0_isEnough_71 (by decide) ?_
              refine M.forget 1 ?_
              dsimp only [List.set_cons_zero, List.set_cons_succ]
              refine M.forget 2 ?_
              dsimp only [List.set_cons_zero, List.set_cons_succ]
              refine M.forget 3 ?_
              dsimp only [List.set_cons_zero, List.set_cons_succ]
              refine M.forget 4 ?_
              dsimp only [List.set_cons_zero, List.set_cons_succ]
              exact L75 (r := true) (by exact ⟨fun _ => (by first | exact absurd c51 (by omega) | exact (hkn.2.2 c56).up (by omega)), fun _ => rfl⟩)
          · refine M.iload (pc := 54) (i := 4) rfl dX0_isEnough_54 ?_
            refine M.if_eq (pc := 56) (tgt := 76) dX0_isEnough_56 (by decide) (by omega) (fun c56 => ?_) (fun c56 => ?_)
            · refine M.iconst (pc := 76) dX0_isEnough_76 ?_
              refine M.istore (pc := 77) (i := 5) (Nat.le_of_ble_eq_true rfl) rfl dX0_isEnough_77 ?_
              dsimp only [List.set_cons_zero, List.set_cons_succ]
              refine M.iconst (pc := 79) dX0_isEnough_79 ?_
              refine M.istore (pc := 80) (i := 6) (Nat.le_of_ble_eq_true rfl) rfl dX0_isEnough_80 ?_
              dsimp only [List.set_cons_zero, List.set_cons_succ]
              have L82 : ∀ (fu : Nat) {f : Bool} {u : Int} {N2 : Int → Int}, (0 ≤ u ∧ u ≤ cu) → ((f = true → NL vt H q.toNat S) ∧ (f = false → ∀ v, 0 ≤ v → v < u → ¬ OKP vt H (U v) S (q - 1).toNat)) → (KN n vt H N2) → (cu - u).toNat < fu → V 0 0 82 [(t, eO 0 [.ref aL, .ref aU, .ref aP, .ref aK, .ref aN, .ref aH, .int (iI cu), .int (iI cp), .int (iI (pI (cb = true)))]), (aP, eI G 1664 wP), (aN, eI G 8192 N2)] [some (.ref t), some (.int (iI S)), some (.int (iI q)), some (.int (iI (wN S % 16))), some (.int (iI (wN S / 16))), some (.int (iI (pI (f = true)))), some (.int (iI u))] [] := by
                intro fu
                induction fu with
                | zero => intro f u N2 hu hf hN2 hm; exact absurd hm (Nat.not_lt_zero _)
                | succ fu ih82 =>
                  intro f u N2 hu hf hN2 hm82
                  refine M.iload (pc := 82) (i := 5) rfl dX0_isEnough_82 ?_
                  have L114 : (f = true ↔ NL vt H q.toNat S) → V 0 0 114 [(t, eO 0 [.ref aL, .ref aU, .ref aP, .ref aK, .ref aN, .ref aH, .int (iI cu), .int (iI cp), .int (iI (pI (cb = true)))]), (aP, eI G 1664 wP), (aN, eI G 8192 N2)] [some (.ref t), some (.int (iI S)), some (.int (iI q)), some (.int (iI (wN S % 16))), some (.int (iI (wN S / 16))), some (.int (iI (pI (f = true)))), some (.int (iI u))] [] := by
                    intro  hfin
                    refine M.aloadn (pc := 114) 0 rfl rfl dX0_isEnough_114 ?_
                    refine M.getf (pc := 115) fg_X0_25 0 rfl rfl dX0_isEnough_115 ?_
                    have L138 : ∀ {val : Int}, (KN n vt H (upZ N2 S val)) → V 0 0 138 [(t, eO 0 [.ref aL, .ref aU, .ref aP, .ref aK, .ref aN, .ref aH, .int (iI cu), .int (iI cp), .int (iI (pI (cb = true)))]), (aP, eI G 1664 wP), (aN, eI G 8192 N2)] [some (.ref t), some (.int (iI S)), some (.int (iI q)), some (.int (iI (wN S % 16))), some (.int (iI (wN S / 16))), some (.int (iI (pI (f = true)))), some (.int (iI u))] [.int (iI val), .int (iI S), .ref aN] := by
                      intro val hval
                      refine M.iast (pc := 138) 2 rfl (by omega) (by omega) dX0_isEnough_138 ?_
                      dsimp only [List.set_cons_zero, List.set_cons_succ]
                      refine M.iload (pc := 139) (i := 5) rfl dX0_isEnough_139 ?_
                      exact EI (f, upZ N2 S val) _ _ _ _ dX0_isEnough_141 (Or.inr ⟨rfl, by first | exact Or.inl rfl | exact Or.inr rfl | exact pI_01 _⟩) (rfl) (rfl) (⟨hfin, hval⟩)
                    refine M.iloadn (pc := 118) 1 rfl rfl dX0_isEnough_118 ?_
                    refine M.iload (pc := 119) (i := 5) rfl dX0_isEnough_119 ?_
                    refine M.if_eqP (pc := 121) (tgt := 132) dX0_isEnough_121 (by decide) (fun c121 => ?_) (fun c121 => ?_)
                    · refine M.iloadn (pc := 132) 2 rfl rfl dX0_isEnough_132 ?_
                      refine M.iload (pc := 133) (i := 4) rfl dX0_isEnough_133 ?_
                      refine M.iconst (pc := 135) dX0_isEnough_135 ?_
                      refine M.ishl (pc := 136) (sh4 (by omega)) dX0_isEnough_136 ?_
                      refine M.ior (pc := 137) (or4 (by omega) (by omega)) dX0_isEnough_137 ?_
                      have e1 : (q + wN S / 16 * 16) % 16 = q := by omega
                      have e2 : (q + wN S / 16 * 16) / 16 = wN S / 16 := by omega
                      exact L138  (by exact hN2.up (by rw [e1, e2]; omega) (by rw [e1]; exact fun _ z => c121 (hfin.mpr z)) (by rw [e2]; exact hkn.2.2))
                    · refine M.iloadn (pc := 124) 3 rfl rfl dX0_isEnough_124 ?_
                      refine M.iloadn (pc := 125) 2 rfl rfl dX0_isEnough_125 ?_
                      refine M.iconst (pc := 126) dX0_isEnough_126 ?_
                      refine M.ishl (pc := 127) (sh4 (by omega)) dX0_isEnough_127 ?_
                      refine M.ior (pc := 128) (or4 (by omega) (by omega)) dX0_isEnough_128 ?_
                      refine M.goto (pc := 129) (tgt := 138) dX0_isEnough_129 (by decide) ?_
                      have e1 : (wN S % 16 + q * 16) % 16 = wN S % 16 := by omega
                      have e2 : (wN S % 16 + q * 16) / 16 = q := by omega
                      exact L138  (by exact hN2.up (by rw [e1, e2]; omega) (by rw [e1]; exact hkn.2.1) (by rw [e2]; exact fun _ => hfin.mp c121))
                  refine M.if_neP (pc := 84) (tgt := 114) dX0_isEnough_84 (by decide) (fun c84 => ?_) (fun c84 => ?_)
                  · exact L114  (by exact ⟨fun _ => hf.1 c84, fun _ => c84⟩)
                  · refine M.iload (pc := 87) (i := 6) rfl dX0_isEnough_87 ?_
                    refine M.aloadn (pc := 89) 0 rfl rfl dX0_isEnough_89 ?_
                    refine M.getf (pc := 90) fg_X0_43 0 rfl rfl dX0_isEnough_90 ?_
                    refine M.icmp_ge (pc := 93) (tgt := 114) dX0_isEnough_93 (by decide) (by omega) (by omega) (fun c93 => ?_) (fun c93 => ?_)
                    · exact L114  (by exact ⟨fun z => absurd z c84, fun z => absurd (NL.okp (by omega) (hn0 c5) z) (fun ⟨s, h1, h2⟩ => (hE.cov hn hM.1 h1 h2).elim (fun v hv => hf.2 (Bool.eq_false_iff.mpr c84) v hv.1.1 (by omega) hv.2.2))⟩)
                    · refine M.aloadn (pc := 96) 0 rfl rfl dX0_isEnough_96 ?_
                      refine M.iload (pc := 97) (i := 6) rfl dX0_isEnough_97 ?_
                      refine M.iloadn (pc := 99) 1 rfl rfl dX0_isEnough_99 ?_
                      refine M.iloadn (pc := 100) 2 rfl rfl dX0_isEnough_100 ?_
                      refine M.iconst (pc := 101) dX0_isEnough_101 ?_
                      refine M.isub (pc := 102) dX0_isEnough_102 ?_
                      refine M.mS (pc := 103) (c_X0_partsEnough_6 (n := n) (U := U) (H := H) (vt := vt) (by first | assumption | omega) (by exact hE) (by exact hS) (by exact hM) (by omega) (by exact hN2) (by omega)) ms_X0_118 [0, 1, 2] rfl rfl rfl rfl (Nat.le_of_ble_eq_true rfl) rfl ⟨(Nat.le_of_ble_eq_true rfl), (Nat.le_of_ble_eq_true rfl)⟩ ⟨(Nat.le_of_ble_eq_true rfl), (Nat.le_of_ble_eq_true rfl)⟩ rfl (fun _ => rfl) dX0_isEnough_103 (fun u103 hu103 => ?_)
                      obtain ⟨r103, N103⟩ := u103
                      dsimp only [putL, List.set_cons_zero, List.set_cons_succ, Option.toList, List.cons_append, List.nil_append] at hu103 ⊢
                      refine M.istore (pc := 106) (i := 5) (Nat.le_of_ble_eq_true rfl) rfl dX0_isEnough_106 ?_
                      dsimp only [List.set_cons_zero, List.set_cons_succ]
                      refine M.iinc (pc := 108) (i := 6) rfl rfl dX0_isEnough_108 ?_
                      dsimp only [List.set_cons_zero, List.set_cons_succ]
                      refine M.goto (pc := 111) (tgt := 82) dX0_isEnough_111 (by decide) ?_
                      exact ih82  (by first | assumption | omega) (by exact ⟨fun z => OKP.nl (by omega) (hE.2.1 u hu.1 (by omega)).1 (hu103.1.mp z), fun z v h0 h1 => (by omega : v < u ∨ v = u).elim (fun w => hf.2 (Bool.eq_false_iff.mpr c84) v h0 w) (fun w y => absurd (hu103.1.mpr (by rw [← w]; exact y)) (by show ¬ r103 = true; rw [show r103 = false from z]; decide))⟩) (by exact hu103.2) (by omega)
              exact L82 _ (f := false) (by first | assumption | omega) (by exact ⟨fun z => absurd z (by decide), fun _ v _ h => by omega⟩) (by first | assumption | omega) (Nat.lt_succ_self _)
            · refine M.iloadn (pc := 59) 2 rfl rfl dX0_isEnough_59 ?_
              refine M.iload (pc := 60) (i := 4) rfl dX0_isEnough_60 ?_
              refine M.icmp_lt (pc := 62) (tgt := 76) dX0_isEnough_62 (by decide) (by omega) (by omega) (fun c62 => ?_) (fun c62 => ?_)
              · refine M.iconst (pc := 76) dX0_isEnough_76 ?_
                refine M.istore (pc := 77) (i := 5) (Nat.le_of_ble_eq_true rfl) rfl dX0_isEnough_77 ?_
                dsimp only [List.set_cons_zero, List.set_cons_succ]
                refine M.iconst (pc := 79) dX0_isEnough_79 ?_
                refine M.istore (pc := 80) (i := 6) (Nat.le_of_ble_eq_true rfl) rfl dX0_isEnough_80 ?_
                dsimp only [List.set_cons_zero, List.set_cons_succ]
                have L82 : ∀ (fu : Nat) {f : Bool} {u : Int} {N2 : Int → Int}, (0 ≤ u ∧ u ≤ cu) → ((f = true → NL vt H q.toNat S) ∧ (f = false → ∀ v, 0 ≤ v → v < u → ¬ OKP vt H (U v) S (q - 1).toNat)) → (KN n vt H N2) → (cu - u).toNat < fu → V 0 0 82 [(t, eO 0 [.ref aL, .ref aU, .ref aP, .ref aK, .ref aN, .ref aH, .int (iI cu), .int (iI cp), .int (iI (pI (cb = true)))]), (aP, eI G 1664 wP), (aN, eI G 8192 N2)] [some (.ref t), some (.int (iI S)), some (.int (iI q)), some (.int (iI (wN S % 16))), some (.int (iI (wN S / 16))), some (.int (iI (pI (f = true)))), some (.int (iI u))] [] := by
                  intro fu
                  induction fu with
                  | zero => intro f u N2 hu hf hN2 hm; exact absurd hm (Nat.not_lt_zero _)
                  | succ fu ih82 =>
                    intro f u N2 hu hf hN2 hm82
                    refine M.iload (pc := 82) (i := 5) rfl dX0_isEnough_82 ?_
                    have L114 : (f = true ↔ NL vt H q.toNat S) → V 0 0 114 [(t, eO 0 [.ref aL, .ref aU, .ref aP, .ref aK, .ref aN, .ref aH, .int (iI cu), .int (iI cp), .int (iI (pI (cb = true)))]), (aP, eI G 1664 wP), (aN, eI G 8192 N2)] [some (.ref t), some (.int (iI S)), some (.int (iI q)), some (.int (iI (wN S % 16))), some (.int (iI (wN S / 16))), some (.int (iI (pI (f = true)))), some (.int (iI u))] [] := by
                      intro  hfin
                      refine M.aloadn (pc := 114) 0 rfl rfl dX0_isEnough_114 ?_
                      refine M.getf (pc := 115) fg_X0_25 0 rfl rfl dX0_isEnough_115 ?_
                      have L138 : ∀ {val : Int}, (KN n vt H (upZ N2 S val)) → V 0 0 138 [(t, eO 0 [.ref aL, .ref aU, .ref aP, .ref aK, .ref aN, .ref aH, .int (iI cu), .int (iI cp), .int (iI (pI (cb = true)))]), (aP, eI G 1664 wP), (aN, eI G 8192 N2)] [some (.ref t), some (.int (iI S)), some (.int (iI q)), some (.int (iI (wN S % 16))), some (.int (iI (wN S / 16))), some (.int (iI (pI (f = true)))), some (.int (iI u))] [.int (iI val), .int (iI S), .ref aN] := by
                        intro val hval
                        refine M.iast (pc := 138) 2 rfl (by omega) (by omega) dX0_isEnough_138 ?_
                        dsimp only [List.set_cons_zero, List.set_cons_succ]
                        refine M.iload (pc := 139) (i := 5) rfl dX0_isEnough_139 ?_
                        exact EI (f, upZ N2 S val) _ _ _ _ dX0_isEnough_141 (Or.inr ⟨rfl, by first | exact Or.inl rfl | exact Or.inr rfl | exact pI_01 _⟩) (rfl) (rfl) (⟨hfin, hval⟩)
                      refine M.iloadn (pc := 118) 1 rfl rfl dX0_isEnough_118 ?_
                      refine M.iload (pc := 119) (i := 5) rfl dX0_isEnough_119 ?_
                      refine M.if_eqP (pc := 121) (tgt := 132) dX0_isEnough_121 (by decide) (fun c121 => ?_) (fun c121 => ?_)
                      · refine M.iloadn (pc := 132) 2 rfl rfl dX0_isEnough_132 ?_
                        refine M.iload (pc := 133) (i := 4) rfl dX0_isEnough_133 ?_
                        refine M.iconst (pc := 135) dX0_isEnough_135 ?_
                        refine M.ishl (pc := 136) (sh4 (by omega)) dX0_isEnough_136 ?_
                        refine M.ior (pc := 137) (or4 (by omega) (by omega)) dX0_isEnough_137 ?_
                        have e1 : (q + wN S / 16 * 16) % 16 = q := by omega
                        have e2 : (q + wN S / 16 * 16) / 16 = wN S / 16 := by omega
                        exact L138  (by exact hN2.up (by rw [e1, e2]; omega) (by rw [e1]; exact fun _ z => c121 (hfin.mpr z)) (by rw [e2]; exact hkn.2.2))
                      · refine M.iloadn (pc := 124) 3 rfl rfl dX0_isEnough_124 ?_
                        refine M.iloadn (pc := 125) 2 rfl rfl dX0_isEnough_125 ?_
                        refine M.iconst (pc := 126) dX0_isEnough_126 ?_
                        refine M.ishl (pc := 127) (sh4 (by omega)) dX0_isEnough_127 ?_
                        refine M.ior (pc := 128) (or4 (by omega) (by omega)) dX0_isEnough_128 ?_
                        refine M.goto (pc := 129) (tgt := 138) dX0_isEnough_129 (by decide) ?_
                        have e1 : (wN S % 16 + q * 16) % 16 = wN S % 16 := by omega
                        have e2 : (wN S % 16 + q * 16) / 16 = q := by omega
                        exact L138  (by exact hN2.up (by rw [e1, e2]; omega) (by rw [e1]; exact hkn.2.1) (by rw [e2]; exact fun _ => hfin.mp c121))
                    refine M.if_neP (pc := 84) (tgt := 114) dX0_isEnough_84 (by decide) (fun c84 => ?_) (fun c84 => ?_)
                    · exact L114  (by exact ⟨fun _ => hf.1 c84, fun _ => c84⟩)
                    · refine M.iload (pc := 87) (i := 6) rfl dX0_isEnough_87 ?_
                      refine M.aloadn (pc := 89) 0 rfl rfl dX0_isEnough_89 ?_
                      refine M.getf (pc := 90) fg_X0_43 0 rfl rfl dX0_isEnough_90 ?_
                      refine M.icmp_ge (pc := 93) (tgt := 114) dX0_isEnough_93 (by decide) (by omega) (by omega) (fun c93 => ?_) (fun c93 => ?_)
                      · exact L114  (by exact ⟨fun z => absurd z c84, fun z => absurd (NL.okp (by omega) (hn0 c5) z) (fun ⟨s, h1, h2⟩ => (hE.cov hn hM.1 h1 h2).elim (fun v hv => hf.2 (Bool.eq_false_iff.mpr c84) v hv.1.1 (by omega) hv.2.2))⟩)
                      · refine M.aloadn (pc := 96) 0 rfl rfl dX0_isEnough_96 ?_
                        refine M.iload (pc := 97) (i := 6) rfl dX0_isEnough_97 ?_
                        refine M.iloadn (pc := 99) 1 rfl rfl dX0_isEnough_99 ?_
                        refine M.iloadn (pc := 100) 2 rfl rfl dX0_isEnough_100 ?_
                        refine M.iconst (pc := 101) dX0_isEnough_101 ?_
                        refine M.isub (pc := 102) dX0_isEnough_102 ?_
                        refine M.mS (pc := 103) (c_X0_partsEnough_6 (n := n) (U := U) (H := H) (vt := vt) (by first | assumption | omega) (by exact hE) (by exact hS) (by exact hM) (by omega) (by exact hN2) (by omega)) ms_X0_118 [0, 1, 2] rfl rfl rfl rfl (Nat.le_of_ble_eq_true rfl) rfl ⟨(Nat.le_of_ble_eq_true rfl), (Nat.le_of_ble_eq_true rfl)⟩ ⟨(Nat.le_of_ble_eq_true rfl), (Nat.le_of_ble_eq_true rfl)⟩ rfl (fun _ => rfl) dX0_isEnough_103 (fun u103 hu103 => ?_)
                        obtain ⟨r103, N103⟩ := u103
                        dsimp only [putL, List.set_cons_zero, List.set_cons_succ, Option.toList, List.cons_append, List.nil_append] at hu103 ⊢
                        refine M.istore (pc := 106) (i := 5) (Nat.le_of_ble_eq_true rfl) rfl dX0_isEnough_106 ?_
                        dsimp only [List.set_cons_zero, List.set_cons_succ]
                        refine M.iinc (pc := 108) (i := 6) rfl rfl dX0_isEnough_108 ?_
                        dsimp only [List.set_cons_zero, List.set_cons_succ]
                        refine M.goto (pc := 111) (tgt := 82) dX0_isEnough_111 (by decide) ?_
                        exact ih82  (by first | assumption | omega) (by exact ⟨fun z => OKP.nl (by omega) (hE.2.1 u hu.1 (by omega)).1 (hu103.1.mp z), fun z v h0 h1 => (by omega : v < u ∨ v = u).elim (fun w => hf.2 (Bool.eq_false_iff.mpr c84) v h0 w) (fun w y => absurd (hu103.1.mpr (by rw [← w]; exact y)) (by show ¬ r103 = true; rw [show r103 = false from z]; decide))⟩) (by exact hu103.2) (by omega)
                exact L82 _ (f := false) (by first | assumption | omega) (by exact ⟨fun z => absurd z (by decide), fun _ v _ h => by omega⟩) (by first | assumption | omega) (Nat.lt_succ_self _)
              · refine M.iloadn (pc := 65) 2 rfl rfl dX0_isEnough_65 ?_
                refine M.iloadn (pc := 66) 3 rfl rfl dX0_isEnough_66 ?_
                refine M.icmp_le (pc := 67) (tgt := 74) dX0_isEnough_67 (by decide) (by omega) (by omega) (fun c67 => ?_) (fun c67 => ?_)
                · refine M.iconst (pc := 74) dX0_isEnough_74 ?_
                  refine M.forget 1 ?_
                  dsimp only [List.set_cons_zero, List.set_cons_succ]
                  refine M.forget 2 ?_
                  dsimp only [List.set_cons_zero, List.set_cons_succ]
                  refine M.forget 3 ?_
                  dsimp only [List.set_cons_zero, List.set_cons_succ]
                  refine M.forget 4 ?_
                  dsimp only [List.set_cons_zero, List.set_cons_succ]
                  exact L75 (r := false) (by exact ⟨fun z => absurd z (by decide), fun z => absurd (NL.up (by omega) z) (hkn.2.1 (by omega))⟩)
                · refine M.iconst (pc := 70) dX0_isEnough_70 ?_
                  refine M.goto (pc := 71) (tgt := 75) dX0_isEnough_71 (by decide) ?_
                  refine M.forget 1 ?_
                  dsimp only [List.set_cons_zero, List.set_cons_succ]
                  refine M.forget 2 ?_
                  dsimp only [List.set_cons_zero, List.set_cons_succ]
                  refine M.forget 3 ?_
                  dsimp only [List.set_cons_zero, List.set_cons_succ]
                  refine M.forget 4 ?_
                  dsimp only [List.set_cons_zero, List.set_cons_succ]
                  exact L75 (r := true) (by exact ⟨fun _ => (by first | exact absurd c51 (by omega) | exact (hkn.2.2 c56).up (by omega)), fun _ => rfl⟩)
        · exact absurd c24 (by omega)
  · refine M.iconst (pc := 8) dX0_isEnough_8 ?_
    exact EI (true, wN) _ _ _ _ dX0_isEnough_9 (Or.inr ⟨rfl, by first | exact Or.inl rfl | exact Or.inr rfl | exact pI_01 _⟩) (rfl) (rfl) (⟨⟨fun _ => NL.up (Nat.zero_le _) (show NL vt H 0 S from hy0 c5), fun _ => rfl⟩, hN⟩)
set_option maxHeartbeats 4000000 in
set_option maxRecDepth 100000 in
theorem c_X0_partsEnough_7 {l : Launch} {G : GT} {t aL aU aP aK aN aH : Nat} {cu cp : Int} {cb : Bool} {wP : Int → Int} {wN : Int → Int} {U : Int → Int} {H : Int → Int → Int} {n : Int} {vt : Int → Prop} {u S q : Int} (hn : 0 ≤ n ∧ n ≤ 6) (hE : TBE n vt H cu U wP) (hS : 0 ≤ S ∧ S < 8192) (hM : MGD n vt H S) (hq : 0 ≤ q ∧ q ≤ 7) (hN : KN n vt H wN) (hu : 0 ≤ u ∧ u < cu) : Con l G yX0_partsEnough cX0_partsEnough 7 (some .boolean) { frames := 15, cells := 0, slots := 0, locals := 390 } [.ref t, .int (iI u), .int (iI S), .int (iI q)] [(t, eO 0 [.ref aL, .ref aU, .ref aP, .ref aK, .ref aN, .ref aH, .int (iI cu), .int (iI cp), .int (iI (pI (cb = true)))]), (aP, eI G 1664 wP), (aN, eI G 8192 wN)] (S := Bool × (Int → Int)) (fun u => some (.int (iI (pI (u.1 = true))))) (fun u => [(t, eO 0 [.ref aL, .ref aU, .ref aP, .ref aK, .ref aN, .ref aH, .int (iI cu), .int (iI cp), .int (iI (pI (cb = true)))]), (aP, eI G 1664 wP), (aN, eI G 8192 u.2)]) (fun x => (x.1 = true ↔ OKP vt H (U u) S q.toNat) ∧ KN n vt H x.2) := by
  refine Con.mk (by decide +kernel) [some (.ref t), some (.int (iI u)), some (.int (iI S)), some (.int (iI q)), none, none, none] rfl (Nat.le_of_ble_eq_true rfl) rfl ?_
  intro V M EI EL EV EA
  have hEc := hE.1
  obtain ⟨hvt, J, hJ, hj, hz, hx⟩ := hE.2.1 u hu.1 hu.2
  refine M.iloadn (pc := 0) 1 rfl rfl dX0_partsEnough_0 ?_
  refine M.bipush (pc := 1) (by decide +kernel) dX0_partsEnough_1 ?_
  refine M.imul (pc := 3) dX0_partsEnough_3 ?_
  refine M.istore (pc := 4) (i := 4) (Nat.le_of_ble_eq_true rfl) rfl dX0_partsEnough_4 ?_
  dsimp only [List.set_cons_zero, List.set_cons_succ]
  have L6 : ∀ (fu : Nat) {j : Int} {N2 : Int → Int}, (0 ≤ j ∧ j ≤ J) → (∀ i, 0 ≤ i → i < j → land S (wP (u * 13 + i)) ≠ S ∧ NL vt H q.toNat (land S (wP (u * 13 + i)))) → (KN n vt H N2) → (13 - j).toNat < fu → V 0 0 6 [(t, eO 0 [.ref aL, .ref aU, .ref aP, .ref aK, .ref aN, .ref aH, .int (iI cu), .int (iI cp), .int (iI (pI (cb = true)))]), (aP, eI G 1664 wP), (aN, eI G 8192 N2)] [some (.ref t), some (.int (iI u)), some (.int (iI S)), some (.int (iI q)), some (.int (iI (u * 13 + j))), none, none] [] := by
    intro fu
    induction fu with
    | zero => intro j N2 hjj hok hN2 hm; exact absurd hm (Nat.not_lt_zero _)
    | succ fu ih6 =>
      intro j N2 hjj hok hN2 hm6
      refine M.iload (pc := 6) (i := 4) rfl dX0_partsEnough_6 ?_
      refine M.iloadn (pc := 8) 1 rfl rfl dX0_partsEnough_8 ?_
      refine M.iconst (pc := 9) dX0_partsEnough_9 ?_
      refine M.iadd (pc := 10) dX0_partsEnough_10 ?_
      refine M.bipush (pc := 11) (by decide +kernel) dX0_partsEnough_11 ?_
      refine M.imul (pc := 13) dX0_partsEnough_13 ?_
      refine M.icmp_ge (pc := 14) (tgt := 82) dX0_partsEnough_14 (by decide) (by omega) (by omega) (fun c14 => ?_) (fun c14 => ?_)
      · refine M.iconst (pc := 82) dX0_partsEnough_82 ?_
        exact EI (true, N2) _ _ _ _ dX0_partsEnough_83 (Or.inr ⟨rfl, by first | exact Or.inl rfl | exact Or.inr rfl | exact pI_01 _⟩) (rfl) (rfl) (⟨⟨fun _ => OKP.of hS hM.1 hx (by rw [show J = j by omega]; exact hok), fun _ => rfl⟩, hN2⟩)
      · refine M.iload (pc := 17) (i := 4) rfl dX0_partsEnough_17 ?_
        refine M.if_lt (pc := 19) (tgt := 42) dX0_partsEnough_19 (by decide) (by omega) (fun c19 => ?_) (fun c19 => ?_)
        · exact absurd c19 (by omega)
        · refine M.iload (pc := 22) (i := 4) rfl dX0_partsEnough_22 ?_
          refine M.aloadn (pc := 24) 0 rfl rfl dX0_partsEnough_24 ?_
          refine M.getf (pc := 25) fg_X0_19 0 rfl rfl dX0_partsEnough_25 ?_
          refine M.alenI (pc := 28) 1 rfl dX0_partsEnough_28 ?_
          refine M.icmp_ge (pc := 29) (tgt := 42) dX0_partsEnough_29 (by decide) (by omega) (by omega) (fun c29 => ?_) (fun c29 => ?_)
          · exact absurd c29 (by omega)
          · refine M.aloadn (pc := 32) 0 rfl rfl dX0_partsEnough_32 ?_
            refine M.getf (pc := 33) fg_X0_19 0 rfl rfl dX0_partsEnough_33 ?_
            refine M.iload (pc := 36) (i := 4) rfl dX0_partsEnough_36 ?_
            refine M.iald (pc := 38) 1 rfl (by omega) (by omega) dX0_partsEnough_38 ?_
            refine M.goto (pc := 39) (tgt := 43) dX0_partsEnough_39 (by decide) ?_
            refine M.istore (pc := 43) (i := 5) (Nat.le_of_ble_eq_true rfl) rfl dX0_partsEnough_43 ?_
            dsimp only [List.set_cons_zero, List.set_cons_succ]
            have hwb : (0 ≤ wP (u * 13 + j) ∧ wP (u * 13 + j) < 8192) ∧ (wP (u * 13 + j) = 0 → j = J) := by
              rcases (by omega : j < J ∨ j = J) with w | w
              · obtain ⟨h1, x, h2, h3⟩ := hj j hjj.1 w
                have h4 : 0 ≤ PT H (U u) (cm (prB n) 13) x ∧ PT H (U u) (cm (prB n) 13) x < 8192 := cm_13b _
                exact ⟨by rw [h3]; exact h4, fun z => absurd z h1⟩
              · have h5 := hz (by omega)
                rw [w, h5]
                exact ⟨by omega, fun _ => rfl⟩
            refine M.iload (pc := 45) (i := 5) rfl dX0_partsEnough_45 ?_
            refine M.if_ne (pc := 47) (tgt := 52) dX0_partsEnough_47 (by decide) (by omega) (fun c47 => ?_) (fun c47 => ?_)
            · have hjJ : j < J := by
                rcases (by omega : j < J ∨ j = J) with w | w
                · exact w
                · exact absurd (by rw [w]; exact hz (by omega)) c47
              have hll := land_b (a := S) (b := wP (u * 13 + j)) hS.1 hwb.1.1
              refine M.iloadn (pc := 52) 2 rfl rfl dX0_partsEnough_52 ?_
              refine M.iload (pc := 53) (i := 5) rfl dX0_partsEnough_53 ?_
              refine M.iand (pc := 55) (land_ok hS.1 hwb.1.1) dX0_partsEnough_55 ?_
              have L74 : ∀ {N3 : Int → Int}, (¬ OKP vt H (U u) S q.toNat) → (KN n vt H N3) → V 0 0 74 [(t, eO 0 [.ref aL, .ref aU, .ref aP, .ref aK, .ref aN, .ref aH, .int (iI cu), .int (iI cp), .int (iI (pI (cb = true)))]), (aP, eI G 1664 wP), (aN, eI G 8192 N3)] [some (.ref t), none, none, none, none, none, none] [] := by
                intro N3 hno hN3
                refine M.iconst (pc := 74) dX0_partsEnough_74 ?_
                exact EI (false, N3) _ _ _ _ dX0_partsEnough_75 (Or.inr ⟨rfl, by first | exact Or.inl rfl | exact Or.inr rfl | exact pI_01 _⟩) (rfl) (rfl) (⟨⟨fun z => absurd (show false = true from z) (by decide), fun z => absurd z hno⟩, hN3⟩)
              refine M.istore (pc := 56) (i := 6) (Nat.le_of_ble_eq_true rfl) rfl dX0_partsEnough_56 ?_
              dsimp only [List.set_cons_zero, List.set_cons_succ]
              refine M.iload (pc := 58) (i := 6) rfl dX0_partsEnough_58 ?_
              refine M.iloadn (pc := 60) 2 rfl rfl dX0_partsEnough_60 ?_
              refine M.icmp_eq (pc := 61) (tgt := 74) dX0_partsEnough_61 (by decide) (by omega) (by omega) (fun c61 => ?_) (fun c61 => ?_)
              · refine M.forget 1 ?_
                dsimp only [List.set_cons_zero, List.set_cons_succ]
                refine M.forget 2 ?_
                dsimp only [List.set_cons_zero, List.set_cons_succ]
                refine M.forget 3 ?_
                dsimp only [List.set_cons_zero, List.set_cons_succ]
                refine M.forget 4 ?_
                dsimp only [List.set_cons_zero, List.set_cons_succ]
                refine M.forget 5 ?_
                dsimp only [List.set_cons_zero, List.set_cons_succ]
                refine M.forget 6 ?_
                dsimp only [List.set_cons_zero, List.set_cons_succ]
                exact L74  (by exact OKP.no hS hM.1 (hj j hjj.1 hjJ).2 (Or.inl c61)) (by exact hN2)
              · refine M.aloadn (pc := 64) 0 rfl rfl dX0_partsEnough_64 ?_
                refine M.iload (pc := 65) (i := 6) rfl dX0_partsEnough_65 ?_
                refine M.iloadn (pc := 67) 3 rfl rfl dX0_partsEnough_67 ?_
                refine M.mS (pc := 68) (c_X0_isEnough_7 (n := n) (U := U) (H := H) (vt := vt) (by first | assumption | omega) (by exact hE) (by omega) (by exact hM.sub (fun d hd => (me_land hd).1)) (by exact hq) (by exact hN2)) ms_X0_114 [0, 1, 2] rfl rfl rfl rfl (Nat.le_of_ble_eq_true rfl) rfl ⟨(Nat.le_of_ble_eq_true rfl), (Nat.le_of_ble_eq_true rfl)⟩ ⟨(Nat.le_of_ble_eq_true rfl), (Nat.le_of_ble_eq_true rfl)⟩ rfl (fun _ => rfl) dX0_partsEnough_68 (fun u68 hu68 => ?_)
                obtain ⟨r68, N68⟩ := u68
                dsimp only [putL, List.set_cons_zero, List.set_cons_succ, Option.toList, List.cons_append, List.nil_append] at hu68 ⊢
                refine M.if_neP (pc := 71) (tgt := 76) dX0_partsEnough_71 (by decide) (fun c71 => ?_) (fun c71 => ?_)
                · refine M.iinc (pc := 76) (i := 4) rfl rfl dX0_partsEnough_76 ?_
                  dsimp only [List.set_cons_zero, List.set_cons_succ]
                  refine M.goto (pc := 79) (tgt := 6) dX0_partsEnough_79 (by decide) ?_
                  refine M.forget 5 ?_
                  dsimp only [List.set_cons_zero, List.set_cons_succ]
                  refine M.forget 6 ?_
                  dsimp only [List.set_cons_zero, List.set_cons_succ]
                  rw [show u * 13 + j + 1 = u * 13 + (j + 1) by omega]
                  exact ih6  (by first | assumption | omega) (by intro i h0 h1; rcases (by omega : i < j ∨ i = j) with w | w; exact hok i h0 w; rw [w]; exact ⟨c61, hu68.1.mp c71⟩) (by exact hu68.2) (by omega)
                · refine M.forget 1 ?_
                  dsimp only [List.set_cons_zero, List.set_cons_succ]
                  refine M.forget 2 ?_
                  dsimp only [List.set_cons_zero, List.set_cons_succ]
                  refine M.forget 3 ?_
                  dsimp only [List.set_cons_zero, List.set_cons_succ]
                  refine M.forget 4 ?_
                  dsimp only [List.set_cons_zero, List.set_cons_succ]
                  refine M.forget 5 ?_
                  dsimp only [List.set_cons_zero, List.set_cons_succ]
                  refine M.forget 6 ?_
                  dsimp only [List.set_cons_zero, List.set_cons_succ]
                  exact L74  (by exact OKP.no hS hM.1 (hj j hjj.1 hjJ).2 (Or.inr (fun z => c71 (hu68.1.mpr z)))) (by exact hu68.2)
            · refine M.iconst (pc := 50) dX0_partsEnough_50 ?_
              exact EI (true, N2) _ _ _ _ dX0_partsEnough_51 (Or.inr ⟨rfl, by first | exact Or.inl rfl | exact Or.inr rfl | exact pI_01 _⟩) (rfl) (rfl) (⟨⟨fun _ => OKP.of hS hM.1 hx (by rw [← hwb.2 c47]; exact hok), fun _ => rfl⟩, hN2⟩)
  rw [show u * 13 = u * 13 + 0 by omega]
  exact L6 _ (j := 0) (by first | assumption | omega) (by intro i _ h; omega) (by first | assumption | omega) (Nat.lt_succ_self _)
set_option maxHeartbeats 4000000 in
set_option maxRecDepth 100000 in
theorem c_X0_isEnough_8 {l : Launch} {G : GT} {t aL aU aP aK aN aH : Nat} {cu cp : Int} {cb : Bool} {wP : Int → Int} {wN : Int → Int} {U : Int → Int} {H : Int → Int → Int} {n : Int} {vt : Int → Prop} {S q : Int} (hn : 0 ≤ n ∧ n ≤ 6) (hE : TBE n vt H cu U wP) (hS : 0 ≤ S ∧ S < 8192) (hM : MGD n vt H S) (hq : 0 ≤ q ∧ q ≤ 8) (hN : KN n vt H wN) : Con l G yX0_isEnough cX0_isEnough 7 (some .boolean) { frames := 16, cells := 0, slots := 0, locals := 416 } [.ref t, .int (iI S), .int (iI q)] [(t, eO 0 [.ref aL, .ref aU, .ref aP, .ref aK, .ref aN, .ref aH, .int (iI cu), .int (iI cp), .int (iI (pI (cb = true)))]), (aP, eI G 1664 wP), (aN, eI G 8192 wN)] (S := Bool × (Int → Int)) (fun u => some (.int (iI (pI (u.1 = true))))) (fun u => [(t, eO 0 [.ref aL, .ref aU, .ref aP, .ref aK, .ref aN, .ref aH, .int (iI cu), .int (iI cp), .int (iI (pI (cb = true)))]), (aP, eI G 1664 wP), (aN, eI G 8192 u.2)]) (fun u => (u.1 = true ↔ NL vt H q.toNat S) ∧ KN n vt H u.2) := by
  refine Con.mk (by decide +kernel) [some (.ref t), some (.int (iI S)), some (.int (iI q)), none, none, none, none] rfl (Nat.le_of_ble_eq_true rfl) rfl ?_
  intro V M EI EL EV EA
  obtain ⟨h1a, h1b, h1c, h1d⟩ := one_ok hS
  have hkn := hN S hS hM
  have hkb := hkn.1
  have hEc := hE.1
  have hy0 : sub1 S = 0 → NL0 vt H S := fun z c d hc hd => by rw [h1c z c d hc hd]; exact fun _ _ => rfl
  have hn0 : sub1 S ≠ 0 → ¬ NL0 vt H S := fun z w => by
    obtain ⟨c, d, hc, hd, hcd⟩ := h1d z
    exact hcd (hM.2 c d hc hd (w c d hc hd))
  refine M.iloadn (pc := 0) 1 rfl rfl dX0_isEnough_0 ?_
  refine M.iloadn (pc := 1) 1 rfl rfl dX0_isEnough_1 ?_
  refine M.iconst (pc := 2) dX0_isEnough_2 ?_
  refine M.isub (pc := 3) dX0_isEnough_3 ?_
  refine M.iand (pc := 4) (h1a) dX0_isEnough_4 ?_
  refine M.if_ne (pc := 5) (tgt := 10) dX0_isEnough_5 (by decide) (by omega) (fun c5 => ?_) (fun c5 => ?_)
  · refine M.iloadn (pc := 10) 2 rfl rfl dX0_isEnough_10 ?_
    refine M.if_le (pc := 11) (tgt := 27) dX0_isEnough_11 (by decide) (by omega) (fun c11 => ?_) (fun c11 => ?_)
    · refine M.iconst (pc := 27) dX0_isEnough_27 ?_
      exact EI (false, wN) _ _ _ _ dX0_isEnough_28 (Or.inr ⟨rfl, by first | exact Or.inl rfl | exact Or.inr rfl | exact pI_01 _⟩) (rfl) (rfl) (⟨⟨fun z => absurd (show false = true from z) (by decide), fun z => absurd (show NL vt H 0 S by rw [show q.toNat = 0 by omega] at z; exact z) (hn0 c5)⟩, hN⟩)
    · refine M.iloadn (pc := 14) 1 rfl rfl dX0_isEnough_14 ?_
      refine M.if_lt (pc := 15) (tgt := 27) dX0_isEnough_15 (by decide) (by omega) (fun c15 => ?_) (fun c15 => ?_)
      · exact absurd c15 (by omega)
      · refine M.iloadn (pc := 18) 1 rfl rfl dX0_isEnough_18 ?_
        refine M.aloadn (pc := 19) 0 rfl rfl dX0_isEnough_19 ?_
        refine M.getf (pc := 20) fg_X0_25 0 rfl rfl dX0_isEnough_20 ?_
        refine M.alenI (pc := 23) 2 rfl dX0_isEnough_23 ?_
        refine M.icmp_lt (pc := 24) (tgt := 29) dX0_isEnough_24 (by decide) (by omega) (by omega) (fun c24 => ?_) (fun c24 => ?_)
        · refine M.aloadn (pc := 29) 0 rfl rfl dX0_isEnough_29 ?_
          refine M.getf (pc := 30) fg_X0_25 0 rfl rfl dX0_isEnough_30 ?_
          refine M.iloadn (pc := 33) 1 rfl rfl dX0_isEnough_33 ?_
          refine M.iald (pc := 34) 2 rfl (by omega) (by omega) dX0_isEnough_34 ?_
          refine M.bipush (pc := 35) (by decide +kernel) dX0_isEnough_35 ?_
          refine M.iand (pc := 37) (and15 (by omega)) dX0_isEnough_37 ?_
          refine M.istoren (pc := 38) 3 rfl (Nat.le_of_ble_eq_true rfl) rfl dX0_isEnough_38 ?_
          dsimp only [List.set_cons_zero, List.set_cons_succ]
          refine M.aloadn (pc := 39) 0 rfl rfl dX0_isEnough_39 ?_
          refine M.getf (pc := 40) fg_X0_25 0 rfl rfl dX0_isEnough_40 ?_
          refine M.iloadn (pc := 43) 1 rfl rfl dX0_isEnough_43 ?_
          refine M.iald (pc := 44) 2 rfl (by omega) (by omega) dX0_isEnough_44 ?_
          refine M.iconst (pc := 45) dX0_isEnough_45 ?_
          refine M.ishr (pc := 46) (shr4 (by omega) (by omega)) dX0_isEnough_46 ?_
          refine M.istore (pc := 47) (i := 4) (Nat.le_of_ble_eq_true rfl) rfl dX0_isEnough_47 ?_
          dsimp only [List.set_cons_zero, List.set_cons_succ]
          have L75 : ∀ {r : Bool}, (r = true ↔ NL vt H q.toNat S) → V 0 0 75 [(t, eO 0 [.ref aL, .ref aU, .ref aP, .ref aK, .ref aN, .ref aH, .int (iI cu), .int (iI cp), .int (iI (pI (cb = true)))]), (aP, eI G 1664 wP), (aN, eI G 8192 wN)] [some (.ref t), none, none, none, none, none, none] [.int (iI (pI (r = true)))] := by
            intro r hr
            exact EI (r, wN) _ _ _ _ dX0_isEnough_75 (Or.inr ⟨rfl, by first | exact Or.inl rfl | exact Or.inr rfl | exact pI_01 _⟩) (rfl) (rfl) (⟨hr, hN⟩)
          refine M.iloadn (pc := 49) 2 rfl rfl dX0_isEnough_49 ?_
          refine M.iloadn (pc := 50) 3 rfl rfl dX0_isEnough_50 ?_
          refine M.icmp_le (pc := 51) (tgt := 65) dX0_isEnough_51 (by decide) (by omega) (by omega) (fun c51 => ?_) (fun c51 => ?_)
          · refine M.iloadn (pc := 65) 2 rfl rfl dX0_isEnough_65 ?_
            refine M.iloadn (pc := 66) 3 rfl rfl dX0_isEnough_66 ?_
            refine M.icmp_le (pc := 67) (tgt := 74) dX0_isEnough_67 (by decide) (by omega) (by omega) (fun c67 => ?_) (fun c67 => ?_)
            · refine M.iconst (pc := 74) dX0_isEnough_74 ?_
              refine M.forget 1 ?_
              dsimp only [List.set_cons_zero, List.set_cons_succ]
              refine M.forget 2 ?_
              dsimp only [List.set_cons_zero, List.set_cons_succ]
              refine M.forget 3 ?_
              dsimp only [List.set_cons_zero, List.set_cons_succ]
              refine M.forget 4 ?_
              dsimp only [List.set_cons_zero, List.set_cons_succ]
              exact L75 (r := false) (by exact ⟨fun z => absurd z (by decide), fun z => absurd (NL.up (by omega) z) (hkn.2.1 (by omega))⟩)
            · refine M.iconst (pc := 70) dX0_isEnough_70 ?_
              refine M.goto (pc := 71) (tgt := 75) dX0_isEnough_71 (by decide) ?_
              refine M.forget 1 ?_
              dsimp only [List.set_cons_zero, List.set_cons_succ]
              refine M.forget 2 ?_
              dsimp only [List.set_cons_zero, List.set_cons_succ]
              refine M.forget 3 ?_
              dsimp only [List.set_cons_zero, List.set_cons_succ]
              refine M.forget 4 ?_
              dsimp only [List.set_cons_zero, List.set_cons_succ]
              exact L75 (r := true) (by exact ⟨fun _ => (by first | exact absurd c51 (by omega) | exact (hkn.2.2 c56).up (by omega)), fun _ => rfl⟩)
          · refine M.iload (pc := 54) (i := 4) rfl dX0_isEnough_54 ?_
            refine M.if_eq (pc := 56) (tgt := 76) dX0_isEnough_56 (by decide) (by omega) (fun c56 => ?_) (fun c56 => ?_)
            · refine M.iconst (pc := 76) dX0_isEnough_76 ?_
              refine M.istore (pc := 77) (i := 5) (Nat.le_of_ble_eq_true rfl) rfl dX0_isEnough_77 ?_
              dsimp only [List.set_cons_zero, List.set_cons_succ]
              refine M.iconst (pc := 79) dX0_isEnough_79 ?_
              refine M.istore (pc := 80) (i := 6) (Nat.le_of_ble_eq_true rfl) rfl dX0_isEnough_80 ?_
              dsimp only [List.set_cons_zero, List.set_cons_succ]
              have L82 : ∀ (fu : Nat) {f : Bool} {u : Int} {N2 : Int → Int}, (0 ≤ u ∧ u ≤ cu) → ((f = true → NL vt H q.toNat S) ∧ (f = false → ∀ v, 0 ≤ v → v < u → ¬ OKP vt H (U v) S (q - 1).toNat)) → (KN n vt H N2) → (cu - u).toNat < fu → V 0 0 82 [(t, eO 0 [.ref aL, .ref aU, .ref aP, .ref aK, .ref aN, .ref aH, .int (iI cu), .int (iI cp), .int (iI (pI (cb = true)))]), (aP, eI G 1664 wP), (aN, eI G 8192 N2)] [some (.ref t), some (.int (iI S)), some (.int (iI q)), some (.int (iI (wN S % 16))), some (.int (iI (wN S / 16))), some (.int (iI (pI (f = true)))), some (.int (iI u))] [] := by
                intro fu
                induction fu with
                | zero => intro f u N2 hu hf hN2 hm; exact absurd hm (Nat.not_lt_zero _)
                | succ fu ih82 =>
                  intro f u N2 hu hf hN2 hm82
                  refine M.iload (pc := 82) (i := 5) rfl dX0_isEnough_82 ?_
                  have L114 : (f = true ↔ NL vt H q.toNat S) → V 0 0 114 [(t, eO 0 [.ref aL, .ref aU, .ref aP, .ref aK, .ref aN, .ref aH, .int (iI cu), .int (iI cp), .int (iI (pI (cb = true)))]), (aP, eI G 1664 wP), (aN, eI G 8192 N2)] [some (.ref t), some (.int (iI S)), some (.int (iI q)), some (.int (iI (wN S % 16))), some (.int (iI (wN S / 16))), some (.int (iI (pI (f = true)))), some (.int (iI u))] [] := by
                    intro  hfin
                    refine M.aloadn (pc := 114) 0 rfl rfl dX0_isEnough_114 ?_
                    refine M.getf (pc := 115) fg_X0_25 0 rfl rfl dX0_isEnough_115 ?_
                    have L138 : ∀ {val : Int}, (KN n vt H (upZ N2 S val)) → V 0 0 138 [(t, eO 0 [.ref aL, .ref aU, .ref aP, .ref aK, .ref aN, .ref aH, .int (iI cu), .int (iI cp), .int (iI (pI (cb = true)))]), (aP, eI G 1664 wP), (aN, eI G 8192 N2)] [some (.ref t), some (.int (iI S)), some (.int (iI q)), some (.int (iI (wN S % 16))), some (.int (iI (wN S / 16))), some (.int (iI (pI (f = true)))), some (.int (iI u))] [.int (iI val), .int (iI S), .ref aN] := by
                      intro val hval
                      refine M.iast (pc := 138) 2 rfl (by omega) (by omega) dX0_isEnough_138 ?_
                      dsimp only [List.set_cons_zero, List.set_cons_succ]
                      refine M.iload (pc := 139) (i := 5) rfl dX0_isEnough_139 ?_
                      exact EI (f, upZ N2 S val) _ _ _ _ dX0_isEnough_141 (Or.inr ⟨rfl, by first | exact Or.inl rfl | exact Or.inr rfl | exact pI_01 _⟩) (rfl) (rfl) (⟨hfin, hval⟩)
                    refine M.iloadn (pc := 118) 1 rfl rfl dX0_isEnough_118 ?_
                    refine M.iload (pc := 119) (i := 5) rfl dX0_isEnough_119 ?_
                    refine M.if_eqP (pc := 121) (tgt := 132) dX0_isEnough_121 (by decide) (fun c121 => ?_) (fun c121 => ?_)
                    · refine M.iloadn (pc := 132) 2 rfl rfl dX0_isEnough_132 ?_
                      refine M.iload (pc := 133) (i := 4) rfl dX0_isEnough_133 ?_
                      refine M.iconst (pc := 135) dX0_isEnough_135 ?_
                      refine M.ishl (pc := 136) (sh4 (by omega)) dX0_isEnough_136 ?_
                      refine M.ior (pc := 137) (or4 (by omega) (by omega)) dX0_isEnough_137 ?_
                      have e1 : (q + wN S / 16 * 16) % 16 = q := by omega
                      have e2 : (q + wN S / 16 * 16) / 16 = wN S / 16 := by omega
                      exact L138  (by exact hN2.up (by rw [e1, e2]; omega) (by rw [e1]; exact fun _ z => c121 (hfin.mpr z)) (by rw [e2]; exact hkn.2.2))
                    · refine M.iloadn (pc := 124) 3 rfl rfl dX0_isEnough_124 ?_
                      refine M.iloadn (pc := 125) 2 rfl rfl dX0_isEnough_125 ?_
                      refine M.iconst (pc := 126) dX0_isEnough_126 ?_
                      refine M.ishl (pc := 127) (sh4 (by omega)) dX0_isEnough_127 ?_
                      refine M.ior (pc := 128) (or4 (by omega) (by omega)) dX0_isEnough_128 ?_
                      refine M.goto (pc := 129) (tgt := 138) dX0_isEnough_129 (by decide) ?_
                      have e1 : (wN S % 16 + q * 16) % 16 = wN S % 16 := by omega
                      have e2 : (wN S % 16 + q * 16) / 16 = q := by omega
                      exact L138  (by exact hN2.up (by rw [e1, e2]; omega) (by rw [e1]; exact hkn.2.1) (by rw [e2]; exact fun _ => hfin.mp c121))
                  refine M.if_neP (pc := 84) (tgt := 114) dX0_isEnough_84 (by decide) (fun c84 => ?_) (fun c84 => ?_)
                  · exact L114  (by exact ⟨fun _ => hf.1 c84, fun _ => c84⟩)
                  · refine M.iload (pc := 87) (i := 6) rfl dX0_isEnough_87 ?_
                    refine M.aloadn (pc := 89) 0 rfl rfl dX0_isEnough_89 ?_
                    refine M.getf (pc := 90) fg_X0_43 0 rfl rfl dX0_isEnough_90 ?_
                    refine M.icmp_ge (pc := 93) (tgt := 114) dX0_isEnough_93 (by decide) (by omega) (by omega) (fun c93 => ?_) (fun c93 => ?_)
                    · exact L114  (by exact ⟨fun z => absurd z c84, fun z => absurd (NL.okp (by omega) (hn0 c5) z) (fun ⟨s, h1, h2⟩ => (hE.cov hn hM.1 h1 h2).elim (fun v hv => hf.2 (Bool.eq_false_iff.mpr c84) v hv.1.1 (by omega) hv.2.2))⟩)
                    · refine M.aloadn (pc := 96) 0 rfl rfl dX0_isEnough_96 ?_
                      refine M.iload (pc := 97) (i := 6) rfl dX0_isEnough_97 ?_
                      refine M.iloadn (pc := 99) 1 rfl rfl dX0_isEnough_99 ?_
                      refine M.iloadn (pc := 100) 2 rfl rfl dX0_isEnough_100 ?_
                      refine M.iconst (pc := 101) dX0_isEnough_101 ?_
                      refine M.isub (pc := 102) dX0_isEnough_102 ?_
                      refine M.mS (pc := 103) (c_X0_partsEnough_7 (n := n) (U := U) (H := H) (vt := vt) (by first | assumption | omega) (by exact hE) (by exact hS) (by exact hM) (by omega) (by exact hN2) (by omega)) ms_X0_118 [0, 1, 2] rfl rfl rfl rfl (Nat.le_of_ble_eq_true rfl) rfl ⟨(Nat.le_of_ble_eq_true rfl), (Nat.le_of_ble_eq_true rfl)⟩ ⟨(Nat.le_of_ble_eq_true rfl), (Nat.le_of_ble_eq_true rfl)⟩ rfl (fun _ => rfl) dX0_isEnough_103 (fun u103 hu103 => ?_)
                      obtain ⟨r103, N103⟩ := u103
                      dsimp only [putL, List.set_cons_zero, List.set_cons_succ, Option.toList, List.cons_append, List.nil_append] at hu103 ⊢
                      refine M.istore (pc := 106) (i := 5) (Nat.le_of_ble_eq_true rfl) rfl dX0_isEnough_106 ?_
                      dsimp only [List.set_cons_zero, List.set_cons_succ]
                      refine M.iinc (pc := 108) (i := 6) rfl rfl dX0_isEnough_108 ?_
                      dsimp only [List.set_cons_zero, List.set_cons_succ]
                      refine M.goto (pc := 111) (tgt := 82) dX0_isEnough_111 (by decide) ?_
                      exact ih82  (by first | assumption | omega) (by exact ⟨fun z => OKP.nl (by omega) (hE.2.1 u hu.1 (by omega)).1 (hu103.1.mp z), fun z v h0 h1 => (by omega : v < u ∨ v = u).elim (fun w => hf.2 (Bool.eq_false_iff.mpr c84) v h0 w) (fun w y => absurd (hu103.1.mpr (by rw [← w]; exact y)) (by show ¬ r103 = true; rw [show r103 = false from z]; decide))⟩) (by exact hu103.2) (by omega)
              exact L82 _ (f := false) (by first | assumption | omega) (by exact ⟨fun z => absurd z (by decide), fun _ v _ h => by omega⟩) (by first | assumption | omega) (Nat.lt_succ_self _)
            · refine M.iloadn (pc := 59) 2 rfl rfl dX0_isEnough_59 ?_
              refine M.iload (pc := 60) (i := 4) rfl dX0_isEnough_60 ?_
              refine M.icmp_lt (pc := 62) (tgt := 76) dX0_isEnough_62 (by decide) (by omega) (by omega) (fun c62 => ?_) (fun c62 => ?_)
              · refine M.iconst (pc := 76) dX0_isEnough_76 ?_
                refine M.istore (pc := 77) (i := 5) (Nat.le_of_ble_eq_true rfl) rfl dX0_isEnough_77 ?_
                dsimp only [List.set_cons_zero, List.set_cons_succ]
                refine M.iconst (pc := 79) dX0_isEnough_79 ?_
                refine M.istore (pc := 80) (i := 6) (Nat.le_of_ble_eq_true rfl) rfl dX0_isEnough_80 ?_
                dsimp only [List.set_cons_zero, List.set_cons_succ]
                have L82 : ∀ (fu : Nat) {f : Bool} {u : Int} {N2 : Int → Int}, (0 ≤ u ∧ u ≤ cu) → ((f = true → NL vt H q.toNat S) ∧ (f = false → ∀ v, 0 ≤ v → v < u → ¬ OKP vt H (U v) S (q - 1).toNat)) → (KN n vt H N2) → (cu - u).toNat < fu → V 0 0 82 [(t, eO 0 [.ref aL, .ref aU, .ref aP, .ref aK, .ref aN, .ref aH, .int (iI cu), .int (iI cp), .int (iI (pI (cb = true)))]), (aP, eI G 1664 wP), (aN, eI G 8192 N2)] [some (.ref t), some (.int (iI S)), some (.int (iI q)), some (.int (iI (wN S % 16))), some (.int (iI (wN S / 16))), some (.int (iI (pI (f = true)))), some (.int (iI u))] [] := by
                  intro fu
                  induction fu with
                  | zero => intro f u N2 hu hf hN2 hm; exact absurd hm (Nat.not_lt_zero _)
                  | succ fu ih82 =>
                    intro f u N2 hu hf hN2 hm82
                    refine M.iload (pc := 82) (i := 5) rfl dX0_isEnough_82 ?_
                    have L114 : (f = true ↔ NL vt H q.toNat S) → V 0 0 114 [(t, eO 0 [.ref aL, .ref aU, .ref aP, .ref aK, .ref aN, .ref aH, .int (iI cu), .int (iI cp), .int (iI (pI (cb = true)))]), (aP, eI G 1664 wP), (aN, eI G 8192 N2)] [some (.ref t), some (.int (iI S)), some (.int (iI q)), some (.int (iI (wN S % 16))), some (.int (iI (wN S / 16))), some (.int (iI (pI (f = true)))), some (.int (iI u))] [] := by
                      intro  hfin
                      refine M.aloadn (pc := 114) 0 rfl rfl dX0_isEnough_114 ?_
                      refine M.getf (pc := 115) fg_X0_25 0 rfl rfl dX0_isEnough_115 ?_
                      have L138 : ∀ {val : Int}, (KN n vt H (upZ N2 S val)) → V 0 0 138 [(t, eO 0 [.ref aL, .ref aU, .ref aP, .ref aK, .ref aN, .ref aH, .int (iI cu), .int (iI cp), .int (iI (pI (cb = true)))]), (aP, eI G 1664 wP), (aN, eI G 8192 N2)] [some (.ref t), some (.int (iI S)), some (.int (iI q)), some (.int (iI (wN S % 16))), some (.int (iI (wN S / 16))), some (.int (iI (pI (f = true)))), some (.int (iI u))] [.int (iI val), .int (iI S), .ref aN] := by
                        intro val hval
                        refine M.iast (pc := 138) 2 rfl (by omega) (by omega) dX0_isEnough_138 ?_
                        dsimp only [List.set_cons_zero, List.set_cons_succ]
                        refine M.iload (pc := 139) (i := 5) rfl dX0_isEnough_139 ?_
                        exact EI (f, upZ N2 S val) _ _ _ _ dX0_isEnough_141 (Or.inr ⟨rfl, by first | exact Or.inl rfl | exact Or.inr rfl | exact pI_01 _⟩) (rfl) (rfl) (⟨hfin, hval⟩)
                      refine M.iloadn (pc := 118) 1 rfl rfl dX0_isEnough_118 ?_
                      refine M.iload (pc := 119) (i := 5) rfl dX0_isEnough_119 ?_
                      refine M.if_eqP (pc := 121) (tgt := 132) dX0_isEnough_121 (by decide) (fun c121 => ?_) (fun c121 => ?_)
                      · refine M.iloadn (pc := 132) 2 rfl rfl dX0_isEnough_132 ?_
                        refine M.iload (pc := 133) (i := 4) rfl dX0_isEnough_133 ?_
                        refine M.iconst (pc := 135) dX0_isEnough_135 ?_
                        refine M.ishl (pc := 136) (sh4 (by omega)) dX0_isEnough_136 ?_
                        refine M.ior (pc := 137) (or4 (by omega) (by omega)) dX0_isEnough_137 ?_
                        have e1 : (q + wN S / 16 * 16) % 16 = q := by omega
                        have e2 : (q + wN S / 16 * 16) / 16 = wN S / 16 := by omega
                        exact L138  (by exact hN2.up (by rw [e1, e2]; omega) (by rw [e1]; exact fun _ z => c121 (hfin.mpr z)) (by rw [e2]; exact hkn.2.2))
                      · refine M.iloadn (pc := 124) 3 rfl rfl dX0_isEnough_124 ?_
                        refine M.iloadn (pc := 125) 2 rfl rfl dX0_isEnough_125 ?_
                        refine M.iconst (pc := 126) dX0_isEnough_126 ?_
                        refine M.ishl (pc := 127) (sh4 (by omega)) dX0_isEnough_127 ?_
                        refine M.ior (pc := 128) (or4 (by omega) (by omega)) dX0_isEnough_128 ?_
                        refine M.goto (pc := 129) (tgt := 138) dX0_isEnough_129 (by decide) ?_
                        have e1 : (wN S % 16 + q * 16) % 16 = wN S % 16 := by omega
                        have e2 : (wN S % 16 + q * 16) / 16 = q := by omega
                        exact L138  (by exact hN2.up (by rw [e1, e2]; omega) (by rw [e1]; exact hkn.2.1) (by rw [e2]; exact fun _ => hfin.mp c121))
                    refine M.if_neP (pc := 84) (tgt := 114) dX0_isEnough_84 (by decide) (fun c84 => ?_) (fun c84 => ?_)
                    · exact L114  (by exact ⟨fun _ => hf.1 c84, fun _ => c84⟩)
                    · refine M.iload (pc := 87) (i := 6) rfl dX0_isEnough_87 ?_
                      refine M.aloadn (pc := 89) 0 rfl rfl dX0_isEnough_89 ?_
                      refine M.getf (pc := 90) fg_X0_43 0 rfl rfl dX0_isEnough_90 ?_
                      refine M.icmp_ge (pc := 93) (tgt := 114) dX0_isEnough_93 (by decide) (by omega) (by omega) (fun c93 => ?_) (fun c93 => ?_)
                      · exact L114  (by exact ⟨fun z => absurd z c84, fun z => absurd (NL.okp (by omega) (hn0 c5) z) (fun ⟨s, h1, h2⟩ => (hE.cov hn hM.1 h1 h2).elim (fun v hv => hf.2 (Bool.eq_false_iff.mpr c84) v hv.1.1 (by omega) hv.2.2))⟩)
                      · refine M.aloadn (pc := 96) 0 rfl rfl dX0_isEnough_96 ?_
                        refine M.iload (pc := 97) (i := 6) rfl dX0_isEnough_97 ?_
                        refine M.iloadn (pc := 99) 1 rfl rfl dX0_isEnough_99 ?_
                        refine M.iloadn (pc := 100) 2 rfl rfl dX0_isEnough_100 ?_
                        refine M.iconst (pc := 101) dX0_isEnough_101 ?_
                        refine M.isub (pc := 102) dX0_isEnough_102 ?_
                        refine M.mS (pc := 103) (c_X0_partsEnough_7 (n := n) (U := U) (H := H) (vt := vt) (by first | assumption | omega) (by exact hE) (by exact hS) (by exact hM) (by omega) (by exact hN2) (by omega)) ms_X0_118 [0, 1, 2] rfl rfl rfl rfl (Nat.le_of_ble_eq_true rfl) rfl ⟨(Nat.le_of_ble_eq_true rfl), (Nat.le_of_ble_eq_true rfl)⟩ ⟨(Nat.le_of_ble_eq_true rfl), (Nat.le_of_ble_eq_true rfl)⟩ rfl (fun _ => rfl) dX0_isEnough_103 (fun u103 hu103 => ?_)
                        obtain ⟨r103, N103⟩ := u103
                        dsimp only [putL, List.set_cons_zero, List.set_cons_succ, Option.toList, List.cons_append, List.nil_append] at hu103 ⊢
                        refine M.istore (pc := 106) (i := 5) (Nat.le_of_ble_eq_true rfl) rfl dX0_isEnough_106 ?_
                        dsimp only [List.set_cons_zero, List.set_cons_succ]
                        refine M.iinc (pc := 108) (i := 6) rfl rfl dX0_isEnough_108 ?_
                        dsimp only [List.set_cons_zero, List.set_cons_succ]
                        refine M.goto (pc := 111) (tgt := 82) dX0_isEnough_111 (by decide) ?_
                        exact ih82  (by first | assumption | omega) (by exact ⟨fun z => OKP.nl (by omega) (hE.2.1 u hu.1 (by omega)).1 (hu103.1.mp z), fun z v h0 h1 => (by omega : v < u ∨ v = u).elim (fun w => hf.2 (Bool.eq_false_iff.mpr c84) v h0 w) (fun w y => absurd (hu103.1.mpr (by rw [← w]; exact y)) (by show ¬ r103 = true; rw [show r103 = false from z]; decide))⟩) (by exact hu103.2) (by omega)
                exact L82 _ (f := false) (by first | assumption | omega) (by exact ⟨fun z => absurd z (by decide), fun _ v _ h => by omega⟩) (by first | assumption | omega) (Nat.lt_succ_self _)
              · refine M.iloadn (pc := 65) 2 rfl rfl dX0_isEnough_65 ?_
                refine M.iloadn (pc := 66) 3 rfl rfl dX0_isEnough_66 ?_
                refine M.icmp_le (pc := 67) (tgt := 74) dX0_isEnough_67 (by decide) (by omega) (by omega) (fun c67 => ?_) (fun c67 => ?_)
                · refine M.iconst (pc := 74) dX0_isEnough_74 ?_
                  refine M.forget 1 ?_
                  dsimp only [List.set_cons_zero, List.set_cons_succ]
                  refine M.forget 2 ?_
                  dsimp only [List.set_cons_zero, List.set_cons_succ]
                  refine M.forget 3 ?_
                  dsimp only [List.set_cons_zero, List.set_cons_succ]
                  refine M.forget 4 ?_
                  dsimp only [List.set_cons_zero, List.set_cons_succ]
                  exact L75 (r := false) (by exact ⟨fun z => absurd z (by decide), fun z => absurd (NL.up (by omega) z) (hkn.2.1 (by omega))⟩)
                · refine M.iconst (pc := 70) dX0_isEnough_70 ?_
                  refine M.goto (pc := 71) (tgt := 75) dX0_isEnough_71 (by decide) ?_
                  refine M.forget 1 ?_
                  dsimp only [List.set_cons_zero, List.set_cons_succ]
                  refine M.forget 2 ?_
                  dsimp only [List.set_cons_zero, List.set_cons_succ]
                  refine M.forget 3 ?_
                  dsimp only [List.set_cons_zero, List.set_cons_succ]
                  refine M.forget 4 ?_
                  dsimp only [List.set_cons_zero, List.set_cons_succ]
                  exact L75 (r := true) (by exact ⟨fun _ => (by first | exact absurd c51 (by omega) | exact (hkn.2.2 c56).up (by omega)), fun _ => rfl⟩)
        · exact absurd c24 (by omega)
  · refine M.iconst (pc := 8) dX0_isEnough_8 ?_
    exact EI (true, wN) _ _ _ _ dX0_isEnough_9 (Or.inr ⟨rfl, by first | exact Or.inl rfl | exact Or.inr rfl | exact pI_01 _⟩) (rfl) (rfl) (⟨⟨fun _ => NL.up (Nat.zero_le _) (show NL vt H 0 S from hy0 c5), fun _ => rfl⟩, hN⟩)
set_option maxHeartbeats 4000000 in
set_option maxRecDepth 100000 in
theorem c_X0_partsEnough_8 {l : Launch} {G : GT} {t aL aU aP aK aN aH : Nat} {cu cp : Int} {cb : Bool} {wP : Int → Int} {wN : Int → Int} {U : Int → Int} {H : Int → Int → Int} {n : Int} {vt : Int → Prop} {u S q : Int} (hn : 0 ≤ n ∧ n ≤ 6) (hE : TBE n vt H cu U wP) (hS : 0 ≤ S ∧ S < 8192) (hM : MGD n vt H S) (hq : 0 ≤ q ∧ q ≤ 8) (hN : KN n vt H wN) (hu : 0 ≤ u ∧ u < cu) : Con l G yX0_partsEnough cX0_partsEnough 7 (some .boolean) { frames := 17, cells := 0, slots := 0, locals := 442 } [.ref t, .int (iI u), .int (iI S), .int (iI q)] [(t, eO 0 [.ref aL, .ref aU, .ref aP, .ref aK, .ref aN, .ref aH, .int (iI cu), .int (iI cp), .int (iI (pI (cb = true)))]), (aP, eI G 1664 wP), (aN, eI G 8192 wN)] (S := Bool × (Int → Int)) (fun u => some (.int (iI (pI (u.1 = true))))) (fun u => [(t, eO 0 [.ref aL, .ref aU, .ref aP, .ref aK, .ref aN, .ref aH, .int (iI cu), .int (iI cp), .int (iI (pI (cb = true)))]), (aP, eI G 1664 wP), (aN, eI G 8192 u.2)]) (fun x => (x.1 = true ↔ OKP vt H (U u) S q.toNat) ∧ KN n vt H x.2) := by
  refine Con.mk (by decide +kernel) [some (.ref t), some (.int (iI u)), some (.int (iI S)), some (.int (iI q)), none, none, none] rfl (Nat.le_of_ble_eq_true rfl) rfl ?_
  intro V M EI EL EV EA
  have hEc := hE.1
  obtain ⟨hvt, J, hJ, hj, hz, hx⟩ := hE.2.1 u hu.1 hu.2
  refine M.iloadn (pc := 0) 1 rfl rfl dX0_partsEnough_0 ?_
  refine M.bipush (pc := 1) (by decide +kernel) dX0_partsEnough_1 ?_
  refine M.imul (pc := 3) dX0_partsEnough_3 ?_
  refine M.istore (pc := 4) (i := 4) (Nat.le_of_ble_eq_true rfl) rfl dX0_partsEnough_4 ?_
  dsimp only [List.set_cons_zero, List.set_cons_succ]
  have L6 : ∀ (fu : Nat) {j : Int} {N2 : Int → Int}, (0 ≤ j ∧ j ≤ J) → (∀ i, 0 ≤ i → i < j → land S (wP (u * 13 + i)) ≠ S ∧ NL vt H q.toNat (land S (wP (u * 13 + i)))) → (KN n vt H N2) → (13 - j).toNat < fu → V 0 0 6 [(t, eO 0 [.ref aL, .ref aU, .ref aP, .ref aK, .ref aN, .ref aH, .int (iI cu), .int (iI cp), .int (iI (pI (cb = true)))]), (aP, eI G 1664 wP), (aN, eI G 8192 N2)] [some (.ref t), some (.int (iI u)), some (.int (iI S)), some (.int (iI q)), some (.int (iI (u * 13 + j))), none, none] [] := by
    intro fu
    induction fu with
    | zero => intro j N2 hjj hok hN2 hm; exact absurd hm (Nat.not_lt_zero _)
    | succ fu ih6 =>
      intro j N2 hjj hok hN2 hm6
      refine M.iload (pc := 6) (i := 4) rfl dX0_partsEnough_6 ?_
      refine M.iloadn (pc := 8) 1 rfl rfl dX0_partsEnough_8 ?_
      refine M.iconst (pc := 9) dX0_partsEnough_9 ?_
      refine M.iadd (pc := 10) dX0_partsEnough_10 ?_
      refine M.bipush (pc := 11) (by decide +kernel) dX0_partsEnough_11 ?_
      refine M.imul (pc := 13) dX0_partsEnough_13 ?_
      refine M.icmp_ge (pc := 14) (tgt := 82) dX0_partsEnough_14 (by decide) (by omega) (by omega) (fun c14 => ?_) (fun c14 => ?_)
      · refine M.iconst (pc := 82) dX0_partsEnough_82 ?_
        exact EI (true, N2) _ _ _ _ dX0_partsEnough_83 (Or.inr ⟨rfl, by first | exact Or.inl rfl | exact Or.inr rfl | exact pI_01 _⟩) (rfl) (rfl) (⟨⟨fun _ => OKP.of hS hM.1 hx (by rw [show J = j by omega]; exact hok), fun _ => rfl⟩, hN2⟩)
      · refine M.iload (pc := 17) (i := 4) rfl dX0_partsEnough_17 ?_
        refine M.if_lt (pc := 19) (tgt := 42) dX0_partsEnough_19 (by decide) (by omega) (fun c19 => ?_) (fun c19 => ?_)
        · exact absurd c19 (by omega)
        · refine M.iload (pc := 22) (i := 4) rfl dX0_partsEnough_22 ?_
          refine M.aloadn (pc := 24) 0 rfl rfl dX0_partsEnough_24 ?_
          refine M.getf (pc := 25) fg_X0_19 0 rfl rfl dX0_partsEnough_25 ?_
          refine M.alenI (pc := 28) 1 rfl dX0_partsEnough_28 ?_
          refine M.icmp_ge (pc := 29) (tgt := 42) dX0_partsEnough_29 (by decide) (by omega) (by omega) (fun c29 => ?_) (fun c29 => ?_)
          · exact absurd c29 (by omega)
          · refine M.aloadn (pc := 32) 0 rfl rfl dX0_partsEnough_32 ?_
            refine M.getf (pc := 33) fg_X0_19 0 rfl rfl dX0_partsEnough_33 ?_
            refine M.iload (pc := 36) (i := 4) rfl dX0_partsEnough_36 ?_
            refine M.iald (pc := 38) 1 rfl (by omega) (by omega) dX0_partsEnough_38 ?_
            refine M.goto (pc := 39) (tgt := 43) dX0_partsEnough_39 (by decide) ?_
            refine M.istore (pc := 43) (i := 5) (Nat.le_of_ble_eq_true rfl) rfl dX0_partsEnough_43 ?_
            dsimp only [List.set_cons_zero, List.set_cons_succ]
            have hwb : (0 ≤ wP (u * 13 + j) ∧ wP (u * 13 + j) < 8192) ∧ (wP (u * 13 + j) = 0 → j = J) := by
              rcases (by omega : j < J ∨ j = J) with w | w
              · obtain ⟨h1, x, h2, h3⟩ := hj j hjj.1 w
                have h4 : 0 ≤ PT H (U u) (cm (prB n) 13) x ∧ PT H (U u) (cm (prB n) 13) x < 8192 := cm_13b _
                exact ⟨by rw [h3]; exact h4, fun z => absurd z h1⟩
              · have h5 := hz (by omega)
                rw [w, h5]
                exact ⟨by omega, fun _ => rfl⟩
            refine M.iload (pc := 45) (i := 5) rfl dX0_partsEnough_45 ?_
            refine M.if_ne (pc := 47) (tgt := 52) dX0_partsEnough_47 (by decide) (by omega) (fun c47 => ?_) (fun c47 => ?_)
            · have hjJ : j < J := by
                rcases (by omega : j < J ∨ j = J) with w | w
                · exact w
                · exact absurd (by rw [w]; exact hz (by omega)) c47
              have hll := land_b (a := S) (b := wP (u * 13 + j)) hS.1 hwb.1.1
              refine M.iloadn (pc := 52) 2 rfl rfl dX0_partsEnough_52 ?_
              refine M.iload (pc := 53) (i := 5) rfl dX0_partsEnough_53 ?_
              refine M.iand (pc := 55) (land_ok hS.1 hwb.1.1) dX0_partsEnough_55 ?_
              have L74 : ∀ {N3 : Int → Int}, (¬ OKP vt H (U u) S q.toNat) → (KN n vt H N3) → V 0 0 74 [(t, eO 0 [.ref aL, .ref aU, .ref aP, .ref aK, .ref aN, .ref aH, .int (iI cu), .int (iI cp), .int (iI (pI (cb = true)))]), (aP, eI G 1664 wP), (aN, eI G 8192 N3)] [some (.ref t), none, none, none, none, none, none] [] := by
                intro N3 hno hN3
                refine M.iconst (pc := 74) dX0_partsEnough_74 ?_
                exact EI (false, N3) _ _ _ _ dX0_partsEnough_75 (Or.inr ⟨rfl, by first | exact Or.inl rfl | exact Or.inr rfl | exact pI_01 _⟩) (rfl) (rfl) (⟨⟨fun z => absurd (show false = true from z) (by decide), fun z => absurd z hno⟩, hN3⟩)
              refine M.istore (pc := 56) (i := 6) (Nat.le_of_ble_eq_true rfl) rfl dX0_partsEnough_56 ?_
              dsimp only [List.set_cons_zero, List.set_cons_succ]
              refine M.iload (pc := 58) (i := 6) rfl dX0_partsEnough_58 ?_
              refine M.iloadn (pc := 60) 2 rfl rfl dX0_partsEnough_60 ?_
              refine M.icmp_eq (pc := 61) (tgt := 74) dX0_partsEnough_61 (by decide) (by omega) (by omega) (fun c61 => ?_) (fun c61 => ?_)
              · refine M.forget 1 ?_
                dsimp only [List.set_cons_zero, List.set_cons_succ]
                refine M.forget 2 ?_
                dsimp only [List.set_cons_zero, List.set_cons_succ]
                refine M.forget 3 ?_
                dsimp only [List.set_cons_zero, List.set_cons_succ]
                refine M.forget 4 ?_
                dsimp only [List.set_cons_zero, List.set_cons_succ]
                refine M.forget 5 ?_
                dsimp only [List.set_cons_zero, List.set_cons_succ]
                refine M.forget 6 ?_
                dsimp only [List.set_cons_zero, List.set_cons_succ]
                exact L74  (by exact OKP.no hS hM.1 (hj j hjj.1 hjJ).2 (Or.inl c61)) (by exact hN2)
              · refine M.aloadn (pc := 64) 0 rfl rfl dX0_partsEnough_64 ?_
                refine M.iload (pc := 65) (i := 6) rfl dX0_partsEnough_65 ?_
                refine M.iloadn (pc := 67) 3 rfl rfl dX0_partsEnough_67 ?_
                refine M.mS (pc := 68) (c_X0_isEnough_8 (n := n) (U := U) (H := H) (vt := vt) (by first | assumption | omega) (by exact hE) (by omega) (by exact hM.sub (fun d hd => (me_land hd).1)) (by exact hq) (by exact hN2)) ms_X0_114 [0, 1, 2] rfl rfl rfl rfl (Nat.le_of_ble_eq_true rfl) rfl ⟨(Nat.le_of_ble_eq_true rfl), (Nat.le_of_ble_eq_true rfl)⟩ ⟨(Nat.le_of_ble_eq_true rfl), (Nat.le_of_ble_eq_true rfl)⟩ rfl (fun _ => rfl) dX0_partsEnough_68 (fun u68 hu68 => ?_)
                obtain ⟨r68, N68⟩ := u68
                dsimp only [putL, List.set_cons_zero, List.set_cons_succ, Option.toList, List.cons_append, List.nil_append] at hu68 ⊢
                refine M.if_neP (pc := 71) (tgt := 76) dX0_partsEnough_71 (by decide) (fun c71 => ?_) (fun c71 => ?_)
                · refine M.iinc (pc := 76) (i := 4) rfl rfl dX0_partsEnough_76 ?_
                  dsimp only [List.set_cons_zero, List.set_cons_succ]
                  refine M.goto (pc := 79) (tgt := 6) dX0_partsEnough_79 (by decide) ?_
                  refine M.forget 5 ?_
                  dsimp only [List.set_cons_zero, List.set_cons_succ]
                  refine M.forget 6 ?_
                  dsimp only [List.set_cons_zero, List.set_cons_succ]
                  rw [show u * 13 + j + 1 = u * 13 + (j + 1) by omega]
                  exact ih6  (by first | assumption | omega) (by intro i h0 h1; rcases (by omega : i < j ∨ i = j) with w | w; exact hok i h0 w; rw [w]; exact ⟨c61, hu68.1.mp c71⟩) (by exact hu68.2) (by omega)
                · refine M.forget 1 ?_
                  dsimp only [List.set_cons_zero, List.set_cons_succ]
                  refine M.forget 2 ?_
                  dsimp only [List.set_cons_zero, List.set_cons_succ]
                  refine M.forget 3 ?_
                  dsimp only [List.set_cons_zero, List.set_cons_succ]
                  refine M.forget 4 ?_
                  dsimp only [List.set_cons_zero, List.set_cons_succ]
                  refine M.forget 5 ?_
                  dsimp only [List.set_cons_zero, List.set_cons_succ]
                  refine M.forget 6 ?_
                  dsimp only [List.set_cons_zero, List.set_cons_succ]
                  exact L74  (by exact OKP.no hS hM.1 (hj j hjj.1 hjJ).2 (Or.inr (fun z => c71 (hu68.1.mpr z)))) (by exact hu68.2)
            · refine M.iconst (pc := 50) dX0_partsEnough_50 ?_
              exact EI (true, N2) _ _ _ _ dX0_partsEnough_51 (Or.inr ⟨rfl, by first | exact Or.inl rfl | exact Or.inr rfl | exact pI_01 _⟩) (rfl) (rfl) (⟨⟨fun _ => OKP.of hS hM.1 hx (by rw [← hwb.2 c47]; exact hok), fun _ => rfl⟩, hN2⟩)
  rw [show u * 13 = u * 13 + 0 by omega]
  exact L6 _ (j := 0) (by first | assumption | omega) (by intro i _ h; omega) (by first | assumption | omega) (Nat.lt_succ_self _)
set_option maxHeartbeats 4000000 in
set_option maxRecDepth 100000 in
theorem c_X0_isEnough_9 {l : Launch} {G : GT} {t aL aU aP aK aN aH : Nat} {cu cp : Int} {cb : Bool} {wP : Int → Int} {wN : Int → Int} {U : Int → Int} {H : Int → Int → Int} {n : Int} {vt : Int → Prop} {S q : Int} (hn : 0 ≤ n ∧ n ≤ 6) (hE : TBE n vt H cu U wP) (hS : 0 ≤ S ∧ S < 8192) (hM : MGD n vt H S) (hq : 0 ≤ q ∧ q ≤ 9) (hN : KN n vt H wN) : Con l G yX0_isEnough cX0_isEnough 7 (some .boolean) { frames := 18, cells := 0, slots := 0, locals := 468 } [.ref t, .int (iI S), .int (iI q)] [(t, eO 0 [.ref aL, .ref aU, .ref aP, .ref aK, .ref aN, .ref aH, .int (iI cu), .int (iI cp), .int (iI (pI (cb = true)))]), (aP, eI G 1664 wP), (aN, eI G 8192 wN)] (S := Bool × (Int → Int)) (fun u => some (.int (iI (pI (u.1 = true))))) (fun u => [(t, eO 0 [.ref aL, .ref aU, .ref aP, .ref aK, .ref aN, .ref aH, .int (iI cu), .int (iI cp), .int (iI (pI (cb = true)))]), (aP, eI G 1664 wP), (aN, eI G 8192 u.2)]) (fun u => (u.1 = true ↔ NL vt H q.toNat S) ∧ KN n vt H u.2) := by
  refine Con.mk (by decide +kernel) [some (.ref t), some (.int (iI S)), some (.int (iI q)), none, none, none, none] rfl (Nat.le_of_ble_eq_true rfl) rfl ?_
  intro V M EI EL EV EA
  obtain ⟨h1a, h1b, h1c, h1d⟩ := one_ok hS
  have hkn := hN S hS hM
  have hkb := hkn.1
  have hEc := hE.1
  have hy0 : sub1 S = 0 → NL0 vt H S := fun z c d hc hd => by rw [h1c z c d hc hd]; exact fun _ _ => rfl
  have hn0 : sub1 S ≠ 0 → ¬ NL0 vt H S := fun z w => by
    obtain ⟨c, d, hc, hd, hcd⟩ := h1d z
    exact hcd (hM.2 c d hc hd (w c d hc hd))
  refine M.iloadn (pc := 0) 1 rfl rfl dX0_isEnough_0 ?_
  refine M.iloadn (pc := 1) 1 rfl rfl dX0_isEnough_1 ?_
  refine M.iconst (pc := 2) dX0_isEnough_2 ?_
  refine M.isub (pc := 3) dX0_isEnough_3 ?_
  refine M.iand (pc := 4) (h1a) dX0_isEnough_4 ?_
  refine M.if_ne (pc := 5) (tgt := 10) dX0_isEnough_5 (by decide) (by omega) (fun c5 => ?_) (fun c5 => ?_)
  · refine M.iloadn (pc := 10) 2 rfl rfl dX0_isEnough_10 ?_
    refine M.if_le (pc := 11) (tgt := 27) dX0_isEnough_11 (by decide) (by omega) (fun c11 => ?_) (fun c11 => ?_)
    · refine M.iconst (pc := 27) dX0_isEnough_27 ?_
      exact EI (false, wN) _ _ _ _ dX0_isEnough_28 (Or.inr ⟨rfl, by first | exact Or.inl rfl | exact Or.inr rfl | exact pI_01 _⟩) (rfl) (rfl) (⟨⟨fun z => absurd (show false = true from z) (by decide), fun z => absurd (show NL vt H 0 S by rw [show q.toNat = 0 by omega] at z; exact z) (hn0 c5)⟩, hN⟩)
    · refine M.iloadn (pc := 14) 1 rfl rfl dX0_isEnough_14 ?_
      refine M.if_lt (pc := 15) (tgt := 27) dX0_isEnough_15 (by decide) (by omega) (fun c15 => ?_) (fun c15 => ?_)
      · exact absurd c15 (by omega)
      · refine M.iloadn (pc := 18) 1 rfl rfl dX0_isEnough_18 ?_
        refine M.aloadn (pc := 19) 0 rfl rfl dX0_isEnough_19 ?_
        refine M.getf (pc := 20) fg_X0_25 0 rfl rfl dX0_isEnough_20 ?_
        refine M.alenI (pc := 23) 2 rfl dX0_isEnough_23 ?_
        refine M.icmp_lt (pc := 24) (tgt := 29) dX0_isEnough_24 (by decide) (by omega) (by omega) (fun c24 => ?_) (fun c24 => ?_)
        · refine M.aloadn (pc := 29) 0 rfl rfl dX0_isEnough_29 ?_
          refine M.getf (pc := 30) fg_X0_25 0 rfl rfl dX0_isEnough_30 ?_
          refine M.iloadn (pc := 33) 1 rfl rfl dX0_isEnough_33 ?_
          refine M.iald (pc := 34) 2 rfl (by omega) (by omega) dX0_isEnough_34 ?_
          refine M.bipush (pc := 35) (by decide +kernel) dX0_isEnough_35 ?_
          refine M.iand (pc := 37) (and15 (by omega)) dX0_isEnough_37 ?_
          refine M.istoren (pc := 38) 3 rfl (Nat.le_of_ble_eq_true rfl) rfl dX0_isEnough_38 ?_
          dsimp only [List.set_cons_zero, List.set_cons_succ]
          refine M.aloadn (pc := 39) 0 rfl rfl dX0_isEnough_39 ?_
          refine M.getf (pc := 40) fg_X0_25 0 rfl rfl dX0_isEnough_40 ?_
          refine M.iloadn (pc := 43) 1 rfl rfl dX0_isEnough_43 ?_
          refine M.iald (pc := 44) 2 rfl (by omega) (by omega) dX0_isEnough_44 ?_
          refine M.iconst (pc := 45) dX0_isEnough_45 ?_
          refine M.ishr (pc := 46) (shr4 (by omega) (by omega)) dX0_isEnough_46 ?_
          refine M.istore (pc := 47) (i := 4) (Nat.le_of_ble_eq_true rfl) rfl dX0_isEnough_47 ?_
          dsimp only [List.set_cons_zero, List.set_cons_succ]
          have L75 : ∀ {r : Bool}, (r = true ↔ NL vt H q.toNat S) → V 0 0 75 [(t, eO 0 [.ref aL, .ref aU, .ref aP, .ref aK, .ref aN, .ref aH, .int (iI cu), .int (iI cp), .int (iI (pI (cb = true)))]), (aP, eI G 1664 wP), (aN, eI G 8192 wN)] [some (.ref t), none, none, none, none, none, none] [.int (iI (pI (r = true)))] := by
            intro r hr
            exact EI (r, wN) _ _ _ _ dX0_isEnough_75 (Or.inr ⟨rfl, by first | exact Or.inl rfl | exact Or.inr rfl | exact pI_01 _⟩) (rfl) (rfl) (⟨hr, hN⟩)
          refine M.iloadn (pc := 49) 2 rfl rfl dX0_isEnough_49 ?_
          refine M.iloadn (pc := 50) 3 rfl rfl dX0_isEnough_50 ?_
          refine M.icmp_le (pc := 51) (tgt := 65) dX0_isEnough_51 (by decide) (by omega) (by omega) (fun c51 => ?_) (fun c51 => ?_)
          · refine M.iloadn (pc := 65) 2 rfl rfl dX0_isEnough_65 ?_
            refine M.iloadn (pc := 66) 3 rfl rfl dX0_isEnough_66 ?_
            refine M.icmp_le (pc := 67) (tgt := 74) dX0_isEnough_67 (by decide) (by omega) (by omega) (fun c67 => ?_) (fun c67 => ?_)
            · refine M.iconst (pc := 74) dX0_isEnough_74 ?_
              refine M.forget 1 ?_
              dsimp only [List.set_cons_zero, List.set_cons_succ]
              refine M.forget 2 ?_
              dsimp only [List.set_cons_zero, List.set_cons_succ]
              refine M.forget 3 ?_
              dsimp only [List.set_cons_zero, List.set_cons_succ]
              refine M.forget 4 ?_
              dsimp only [List.set_cons_zero, List.set_cons_succ]
              exact L75 (r := false) (by exact ⟨fun z => absurd z (by decide), fun z => absurd (NL.up (by omega) z) (hkn.2.1 (by omega))⟩)
            · refine M.iconst (pc := 70) dX0_isEnough_70 ?_
              refine M.goto (pc := 71) (tgt := 75) dX0_isEnough_71 (by decide) ?_
              refine M.forget 1 ?_
              dsimp only [List.set_cons_zero, List.set_cons_succ]
              refine M.forget 2 ?_
              dsimp only [List.set_cons_zero, List.set_cons_succ]
              refine M.forget 3 ?_
              dsimp only [List.set_cons_zero, List.set_cons_succ]
              refine M.forget 4 ?_
              dsimp only [List.set_cons_zero, List.set_cons_succ]
              exact L75 (r := true) (by exact ⟨fun _ => (by first | exact absurd c51 (by omega) | exact (hkn.2.2 c56).up (by omega)), fun _ => rfl⟩)
          · refine M.iload (pc := 54) (i := 4) rfl dX0_isEnough_54 ?_
            refine M.if_eq (pc := 56) (tgt := 76) dX0_isEnough_56 (by decide) (by omega) (fun c56 => ?_) (fun c56 => ?_)
            · refine M.iconst (pc := 76) dX0_isEnough_76 ?_
              refine M.istore (pc := 77) (i := 5) (Nat.le_of_ble_eq_true rfl) rfl dX0_isEnough_77 ?_
              dsimp only [List.set_cons_zero, List.set_cons_succ]
              refine M.iconst (pc := 79) dX0_isEnough_79 ?_
              refine M.istore (pc := 80) (i := 6) (Nat.le_of_ble_eq_true rfl) rfl dX0_isEnough_80 ?_
              dsimp only [List.set_cons_zero, List.set_cons_succ]
              have L82 : ∀ (fu : Nat) {f : Bool} {u : Int} {N2 : Int → Int}, (0 ≤ u ∧ u ≤ cu) → ((f = true → NL vt H q.toNat S) ∧ (f = false → ∀ v, 0 ≤ v → v < u → ¬ OKP vt H (U v) S (q - 1).toNat)) → (KN n vt H N2) → (cu - u).toNat < fu → V 0 0 82 [(t, eO 0 [.ref aL, .ref aU, .ref aP, .ref aK, .ref aN, .ref aH, .int (iI cu), .int (iI cp), .int (iI (pI (cb = true)))]), (aP, eI G 1664 wP), (aN, eI G 8192 N2)] [some (.ref t), some (.int (iI S)), some (.int (iI q)), some (.int (iI (wN S % 16))), some (.int (iI (wN S / 16))), some (.int (iI (pI (f = true)))), some (.int (iI u))] [] := by
                intro fu
                induction fu with
                | zero => intro f u N2 hu hf hN2 hm; exact absurd hm (Nat.not_lt_zero _)
                | succ fu ih82 =>
                  intro f u N2 hu hf hN2 hm82
                  refine M.iload (pc := 82) (i := 5) rfl dX0_isEnough_82 ?_
                  have L114 : (f = true ↔ NL vt H q.toNat S) → V 0 0 114 [(t, eO 0 [.ref aL, .ref aU, .ref aP, .ref aK, .ref aN, .ref aH, .int (iI cu), .int (iI cp), .int (iI (pI (cb = true)))]), (aP, eI G 1664 wP), (aN, eI G 8192 N2)] [some (.ref t), some (.int (iI S)), some (.int (iI q)), some (.int (iI (wN S % 16))), some (.int (iI (wN S / 16))), some (.int (iI (pI (f = true)))), some (.int (iI u))] [] := by
                    intro  hfin
                    refine M.aloadn (pc := 114) 0 rfl rfl dX0_isEnough_114 ?_
                    refine M.getf (pc := 115) fg_X0_25 0 rfl rfl dX0_isEnough_115 ?_
                    have L138 : ∀ {val : Int}, (KN n vt H (upZ N2 S val)) → V 0 0 138 [(t, eO 0 [.ref aL, .ref aU, .ref aP, .ref aK, .ref aN, .ref aH, .int (iI cu), .int (iI cp), .int (iI (pI (cb = true)))]), (aP, eI G 1664 wP), (aN, eI G 8192 N2)] [some (.ref t), some (.int (iI S)), some (.int (iI q)), some (.int (iI (wN S % 16))), some (.int (iI (wN S / 16))), some (.int (iI (pI (f = true)))), some (.int (iI u))] [.int (iI val), .int (iI S), .ref aN] := by
                      intro val hval
                      refine M.iast (pc := 138) 2 rfl (by omega) (by omega) dX0_isEnough_138 ?_
                      dsimp only [List.set_cons_zero, List.set_cons_succ]
                      refine M.iload (pc := 139) (i := 5) rfl dX0_isEnough_139 ?_
                      exact EI (f, upZ N2 S val) _ _ _ _ dX0_isEnough_141 (Or.inr ⟨rfl, by first | exact Or.inl rfl | exact Or.inr rfl | exact pI_01 _⟩) (rfl) (rfl) (⟨hfin, hval⟩)
                    refine M.iloadn (pc := 118) 1 rfl rfl dX0_isEnough_118 ?_
                    refine M.iload (pc := 119) (i := 5) rfl dX0_isEnough_119 ?_
                    refine M.if_eqP (pc := 121) (tgt := 132) dX0_isEnough_121 (by decide) (fun c121 => ?_) (fun c121 => ?_)
                    · refine M.iloadn (pc := 132) 2 rfl rfl dX0_isEnough_132 ?_
                      refine M.iload (pc := 133) (i := 4) rfl dX0_isEnough_133 ?_
                      refine M.iconst (pc := 135) dX0_isEnough_135 ?_
                      refine M.ishl (pc := 136) (sh4 (by omega)) dX0_isEnough_136 ?_
                      refine M.ior (pc := 137) (or4 (by omega) (by omega)) dX0_isEnough_137 ?_
                      have e1 : (q + wN S / 16 * 16) % 16 = q := by omega
                      have e2 : (q + wN S / 16 * 16) / 16 = wN S / 16 := by omega
                      exact L138  (by exact hN2.up (by rw [e1, e2]; omega) (by rw [e1]; exact fun _ z => c121 (hfin.mpr z)) (by rw [e2]; exact hkn.2.2))
                    · refine M.iloadn (pc := 124) 3 rfl rfl dX0_isEnough_124 ?_
                      refine M.iloadn (pc := 125) 2 rfl rfl dX0_isEnough_125 ?_
                      refine M.iconst (pc := 126) dX0_isEnough_126 ?_
                      refine M.ishl (pc := 127) (sh4 (by omega)) dX0_isEnough_127 ?_
                      refine M.ior (pc := 128) (or4 (by omega) (by omega)) dX0_isEnough_128 ?_
                      refine M.goto (pc := 129) (tgt := 138) dX0_isEnough_129 (by decide) ?_
                      have e1 : (wN S % 16 + q * 16) % 16 = wN S % 16 := by omega
                      have e2 : (wN S % 16 + q * 16) / 16 = q := by omega
                      exact L138  (by exact hN2.up (by rw [e1, e2]; omega) (by rw [e1]; exact hkn.2.1) (by rw [e2]; exact fun _ => hfin.mp c121))
                  refine M.if_neP (pc := 84) (tgt := 114) dX0_isEnough_84 (by decide) (fun c84 => ?_) (fun c84 => ?_)
                  · exact L114  (by exact ⟨fun _ => hf.1 c84, fun _ => c84⟩)
                  · refine M.iload (pc := 87) (i := 6) rfl dX0_isEnough_87 ?_
                    refine M.aloadn (pc := 89) 0 rfl rfl dX0_isEnough_89 ?_
                    refine M.getf (pc := 90) fg_X0_43 0 rfl rfl dX0_isEnough_90 ?_
                    refine M.icmp_ge (pc := 93) (tgt := 114) dX0_isEnough_93 (by decide) (by omega) (by omega) (fun c93 => ?_) (fun c93 => ?_)
                    · exact L114  (by exact ⟨fun z => absurd z c84, fun z => absurd (NL.okp (by omega) (hn0 c5) z) (fun ⟨s, h1, h2⟩ => (hE.cov hn hM.1 h1 h2).elim (fun v hv => hf.2 (Bool.eq_false_iff.mpr c84) v hv.1.1 (by omega) hv.2.2))⟩)
                    · refine M.aloadn (pc := 96) 0 rfl rfl dX0_isEnough_96 ?_
                      refine M.iload (pc := 97) (i := 6) rfl dX0_isEnough_97 ?_
                      refine M.iloadn (pc := 99) 1 rfl rfl dX0_isEnough_99 ?_
                      refine M.iloadn (pc := 100) 2 rfl rfl dX0_isEnough_100 ?_
                      refine M.iconst (pc := 101) dX0_isEnough_101 ?_
                      refine M.isub (pc := 102) dX0_isEnough_102 ?_
                      refine M.mS (pc := 103) (c_X0_partsEnough_8 (n := n) (U := U) (H := H) (vt := vt) (by first | assumption | omega) (by exact hE) (by exact hS) (by exact hM) (by omega) (by exact hN2) (by omega)) ms_X0_118 [0, 1, 2] rfl rfl rfl rfl (Nat.le_of_ble_eq_true rfl) rfl ⟨(Nat.le_of_ble_eq_true rfl), (Nat.le_of_ble_eq_true rfl)⟩ ⟨(Nat.le_of_ble_eq_true rfl), (Nat.le_of_ble_eq_true rfl)⟩ rfl (fun _ => rfl) dX0_isEnough_103 (fun u103 hu103 => ?_)
                      obtain ⟨r103, N103⟩ := u103
                      dsimp only [putL, List.set_cons_zero, List.set_cons_succ, Option.toList, List.cons_append, List.nil_append] at hu103 ⊢
                      refine M.istore (pc := 106) (i := 5) (Nat.le_of_ble_eq_true rfl) rfl dX0_isEnough_106 ?_
                      dsimp only [List.set_cons_zero, List.set_cons_succ]
                      refine M.iinc (pc := 108) (i := 6) rfl rfl dX0_isEnough_108 ?_
                      dsimp only [List.set_cons_zero, List.set_cons_succ]
                      refine M.goto (pc := 111) (tgt := 82) dX0_isEnough_111 (by decide) ?_
                      exact ih82  (by first | assumption | omega) (by exact ⟨fun z => OKP.nl (by omega) (hE.2.1 u hu.1 (by omega)).1 (hu103.1.mp z), fun z v h0 h1 => (by omega : v < u ∨ v = u).elim (fun w => hf.2 (Bool.eq_false_iff.mpr c84) v h0 w) (fun w y => absurd (hu103.1.mpr (by rw [← w]; exact y)) (by show ¬ r103 = true; rw [show r103 = false from z]; decide))⟩) (by exact hu103.2) (by omega)
              exact L82 _ (f := false) (by first | assumption | omega) (by exact ⟨fun z => absurd z (by decide), fun _ v _ h => by omega⟩) (by first | assumption | omega) (Nat.lt_succ_self _)
            · refine M.iloadn (pc := 59) 2 rfl rfl dX0_isEnough_59 ?_
              refine M.iload (pc := 60) (i := 4) rfl dX0_isEnough_60 ?_
              refine M.icmp_lt (pc := 62) (tgt := 76) dX0_isEnough_62 (by decide) (by omega) (by omega) (fun c62 => ?_) (fun c62 => ?_)
              · refine M.iconst (pc := 76) dX0_isEnough_76 ?_
                refine M.istore (pc := 77) (i := 5) (Nat.le_of_ble_eq_true rfl) rfl dX0_isEnough_77 ?_
                dsimp only [List.set_cons_zero, List.set_cons_succ]
                refine M.iconst (pc := 79) dX0_isEnough_79 ?_
                refine M.istore (pc := 80) (i := 6) (Nat.le_of_ble_eq_true rfl) rfl dX0_isEnough_80 ?_
                dsimp only [List.set_cons_zero, List.set_cons_succ]
                have L82 : ∀ (fu : Nat) {f : Bool} {u : Int} {N2 : Int → Int}, (0 ≤ u ∧ u ≤ cu) → ((f = true → NL vt H q.toNat S) ∧ (f = false → ∀ v, 0 ≤ v → v < u → ¬ OKP vt H (U v) S (q - 1).toNat)) → (KN n vt H N2) → (cu - u).toNat < fu → V 0 0 82 [(t, eO 0 [.ref aL, .ref aU, .ref aP, .ref aK, .ref aN, .ref aH, .int (iI cu), .int (iI cp), .int (iI (pI (cb = true)))]), (aP, eI G 1664 wP), (aN, eI G 8192 N2)] [some (.ref t), some (.int (iI S)), some (.int (iI q)), some (.int (iI (wN S % 16))), some (.int (iI (wN S / 16))), some (.int (iI (pI (f = true)))), some (.int (iI u))] [] := by
                  intro fu
                  induction fu with
                  | zero => intro f u N2 hu hf hN2 hm; exact absurd hm (Nat.not_lt_zero _)
                  | succ fu ih82 =>
                    intro f u N2 hu hf hN2 hm82
                    refine M.iload (pc := 82) (i := 5) rfl dX0_isEnough_82 ?_
                    have L114 : (f = true ↔ NL vt H q.toNat S) → V 0 0 114 [(t, eO 0 [.ref aL, .ref aU, .ref aP, .ref aK, .ref aN, .ref aH, .int (iI cu), .int (iI cp), .int (iI (pI (cb = true)))]), (aP, eI G 1664 wP), (aN, eI G 8192 N2)] [some (.ref t), some (.int (iI S)), some (.int (iI q)), some (.int (iI (wN S % 16))), some (.int (iI (wN S / 16))), some (.int (iI (pI (f = true)))), some (.int (iI u))] [] := by
                      intro  hfin
                      refine M.aloadn (pc := 114) 0 rfl rfl dX0_isEnough_114 ?_
                      refine M.getf (pc := 115) fg_X0_25 0 rfl rfl dX0_isEnough_115 ?_
                      have L138 : ∀ {val : Int}, (KN n vt H (upZ N2 S val)) → V 0 0 138 [(t, eO 0 [.ref aL, .ref aU, .ref aP, .ref aK, .ref aN, .ref aH, .int (iI cu), .int (iI cp), .int (iI (pI (cb = true)))]), (aP, eI G 1664 wP), (aN, eI G 8192 N2)] [some (.ref t), some (.int (iI S)), some (.int (iI q)), some (.int (iI (wN S % 16))), some (.int (iI (wN S / 16))), some (.int (iI (pI (f = true)))), some (.int (iI u))] [.int (iI val), .int (iI S), .ref aN] := by
                        intro val hval
                        refine M.iast (pc := 138) 2 rfl (by omega) (by omega) dX0_isEnough_138 ?_
                        dsimp only [List.set_cons_zero, List.set_cons_succ]
                        refine M.iload (pc := 139) (i := 5) rfl dX0_isEnough_139 ?_
                        exact EI (f, upZ N2 S val) _ _ _ _ dX0_isEnough_141 (Or.inr ⟨rfl, by first | exact Or.inl rfl | exact Or.inr rfl | exact pI_01 _⟩) (rfl) (rfl) (⟨hfin, hval⟩)
                      refine M.iloadn (pc := 118) 1 rfl rfl dX0_isEnough_118 ?_
                      refine M.iload (pc := 119) (i := 5) rfl dX0_isEnough_119 ?_
                      refine M.if_eqP (pc := 121) (tgt := 132) dX0_isEnough_121 (by decide) (fun c121 => ?_) (fun c121 => ?_)
                      · refine M.iloadn (pc := 132) 2 rfl rfl dX0_isEnough_132 ?_
                        refine M.iload (pc := 133) (i := 4) rfl dX0_isEnough_133 ?_
                        refine M.iconst (pc := 135) dX0_isEnough_135 ?_
                        refine M.ishl (pc := 136) (sh4 (by omega)) dX0_isEnough_136 ?_
                        refine M.ior (pc := 137) (or4 (by omega) (by omega)) dX0_isEnough_137 ?_
                        have e1 : (q + wN S / 16 * 16) % 16 = q := by omega
                        have e2 : (q + wN S / 16 * 16) / 16 = wN S / 16 := by omega
                        exact L138  (by exact hN2.up (by rw [e1, e2]; omega) (by rw [e1]; exact fun _ z => c121 (hfin.mpr z)) (by rw [e2]; exact hkn.2.2))
                      · refine M.iloadn (pc := 124) 3 rfl rfl dX0_isEnough_124 ?_
                        refine M.iloadn (pc := 125) 2 rfl rfl dX0_isEnough_125 ?_
                        refine M.iconst (pc := 126) dX0_isEnough_126 ?_
                        refine M.ishl (pc := 127) (sh4 (by omega)) dX0_isEnough_127 ?_
                        refine M.ior (pc := 128) (or4 (by omega) (by omega)) dX0_isEnough_128 ?_
                        refine M.goto (pc := 129) (tgt := 138) dX0_isEnough_129 (by decide) ?_
                        have e1 : (wN S % 16 + q * 16) % 16 = wN S % 16 := by omega
                        have e2 : (wN S % 16 + q * 16) / 16 = q := by omega
                        exact L138  (by exact hN2.up (by rw [e1, e2]; omega) (by rw [e1]; exact hkn.2.1) (by rw [e2]; exact fun _ => hfin.mp c121))
                    refine M.if_neP (pc := 84) (tgt := 114) dX0_isEnough_84 (by decide) (fun c84 => ?_) (fun c84 => ?_)
                    · exact L114  (by exact ⟨fun _ => hf.1 c84, fun _ => c84⟩)
                    · refine M.iload (pc := 87) (i := 6) rfl dX0_isEnough_87 ?_
                      refine M.aloadn (pc := 89) 0 rfl rfl dX0_isEnough_89 ?_
                      refine M.getf (pc := 90) fg_X0_43 0 rfl rfl dX0_isEnough_90 ?_
                      refine M.icmp_ge (pc := 93) (tgt := 114) dX0_isEnough_93 (by decide) (by omega) (by omega) (fun c93 => ?_) (fun c93 => ?_)
                      · exact L114  (by exact ⟨fun z => absurd z c84, fun z => absurd (NL.okp (by omega) (hn0 c5) z) (fun ⟨s, h1, h2⟩ => (hE.cov hn hM.1 h1 h2).elim (fun v hv => hf.2 (Bool.eq_false_iff.mpr c84) v hv.1.1 (by omega) hv.2.2))⟩)
                      · refine M.aloadn (pc := 96) 0 rfl rfl dX0_isEnough_96 ?_
                        refine M.iload (pc := 97) (i := 6) rfl dX0_isEnough_97 ?_
                        refine M.iloadn (pc := 99) 1 rfl rfl dX0_isEnough_99 ?_
                        refine M.iloadn (pc := 100) 2 rfl rfl dX0_isEnough_100 ?_
                        refine M.iconst (pc := 101) dX0_isEnough_101 ?_
                        refine M.isub (pc := 102) dX0_isEnough_102 ?_
                        refine M.mS (pc := 103) (c_X0_partsEnough_8 (n := n) (U := U) (H := H) (vt := vt) (by first | assumption | omega) (by exact hE) (by exact hS) (by exact hM) (by omega) (by exact hN2) (by omega)) ms_X0_118 [0, 1, 2] rfl rfl rfl rfl (Nat.le_of_ble_eq_true rfl) rfl ⟨(Nat.le_of_ble_eq_true rfl), (Nat.le_of_ble_eq_true rfl)⟩ ⟨(Nat.le_of_ble_eq_true rfl), (Nat.le_of_ble_eq_true rfl)⟩ rfl (fun _ => rfl) dX0_isEnough_103 (fun u103 hu103 => ?_)
                        obtain ⟨r103, N103⟩ := u103
                        dsimp only [putL, List.set_cons_zero, List.set_cons_succ, Option.toList, List.cons_append, List.nil_append] at hu103 ⊢
                        refine M.istore (pc := 106) (i := 5) (Nat.le_of_ble_eq_true rfl) rfl dX0_isEnough_106 ?_
                        dsimp only [List.set_cons_zero, List.set_cons_succ]
                        refine M.iinc (pc := 108) (i := 6) rfl rfl dX0_isEnough_108 ?_
                        dsimp only [List.set_cons_zero, List.set_cons_succ]
                        refine M.goto (pc := 111) (tgt := 82) dX0_isEnough_111 (by decide) ?_
                        exact ih82  (by first | assumption | omega) (by exact ⟨fun z => OKP.nl (by omega) (hE.2.1 u hu.1 (by omega)).1 (hu103.1.mp z), fun z v h0 h1 => (by omega : v < u ∨ v = u).elim (fun w => hf.2 (Bool.eq_false_iff.mpr c84) v h0 w) (fun w y => absurd (hu103.1.mpr (by rw [← w]; exact y)) (by show ¬ r103 = true; rw [show r103 = false from z]; decide))⟩) (by exact hu103.2) (by omega)
                exact L82 _ (f := false) (by first | assumption | omega) (by exact ⟨fun z => absurd z (by decide), fun _ v _ h => by omega⟩) (by first | assumption | omega) (Nat.lt_succ_self _)
              · refine M.iloadn (pc := 65) 2 rfl rfl dX0_isEnough_65 ?_
                refine M.iloadn (pc := 66) 3 rfl rfl dX0_isEnough_66 ?_
                refine M.icmp_le (pc := 67) (tgt := 74) dX0_isEnough_67 (by decide) (by omega) (by omega) (fun c67 => ?_) (fun c67 => ?_)
                · refine M.iconst (pc := 74) dX0_isEnough_74 ?_
                  refine M.forget 1 ?_
                  dsimp only [List.set_cons_zero, List.set_cons_succ]
                  refine M.forget 2 ?_
                  dsimp only [List.set_cons_zero, List.set_cons_succ]
                  refine M.forget 3 ?_
                  dsimp only [List.set_cons_zero, List.set_cons_succ]
                  refine M.forget 4 ?_
                  dsimp only [List.set_cons_zero, List.set_cons_succ]
                  exact L75 (r := false) (by exact ⟨fun z => absurd z (by decide), fun z => absurd (NL.up (by omega) z) (hkn.2.1 (by omega))⟩)
                · refine M.iconst (pc := 70) dX0_isEnough_70 ?_
                  refine M.goto (pc := 71) (tgt := 75) dX0_isEnough_71 (by decide) ?_
                  refine M.forget 1 ?_
                  dsimp only [List.set_cons_zero, List.set_cons_succ]
                  refine M.forget 2 ?_
                  dsimp only [List.set_cons_zero, List.set_cons_succ]
                  refine M.forget 3 ?_
                  dsimp only [List.set_cons_zero, List.set_cons_succ]
                  refine M.forget 4 ?_
                  dsimp only [List.set_cons_zero, List.set_cons_succ]
                  exact L75 (r := true) (by exact ⟨fun _ => (by first | exact absurd c51 (by omega) | exact (hkn.2.2 c56).up (by omega)), fun _ => rfl⟩)
        · exact absurd c24 (by omega)
  · refine M.iconst (pc := 8) dX0_isEnough_8 ?_
    exact EI (true, wN) _ _ _ _ dX0_isEnough_9 (Or.inr ⟨rfl, by first | exact Or.inl rfl | exact Or.inr rfl | exact pI_01 _⟩) (rfl) (rfl) (⟨⟨fun _ => NL.up (Nat.zero_le _) (show NL vt H 0 S from hy0 c5), fun _ => rfl⟩, hN⟩)
set_option maxHeartbeats 4000000 in
set_option maxRecDepth 100000 in
theorem c_X0_partsEnough_9 {l : Launch} {G : GT} {t aL aU aP aK aN aH : Nat} {cu cp : Int} {cb : Bool} {wP : Int → Int} {wN : Int → Int} {U : Int → Int} {H : Int → Int → Int} {n : Int} {vt : Int → Prop} {u S q : Int} (hn : 0 ≤ n ∧ n ≤ 6) (hE : TBE n vt H cu U wP) (hS : 0 ≤ S ∧ S < 8192) (hM : MGD n vt H S) (hq : 0 ≤ q ∧ q ≤ 9) (hN : KN n vt H wN) (hu : 0 ≤ u ∧ u < cu) : Con l G yX0_partsEnough cX0_partsEnough 7 (some .boolean) { frames := 19, cells := 0, slots := 0, locals := 494 } [.ref t, .int (iI u), .int (iI S), .int (iI q)] [(t, eO 0 [.ref aL, .ref aU, .ref aP, .ref aK, .ref aN, .ref aH, .int (iI cu), .int (iI cp), .int (iI (pI (cb = true)))]), (aP, eI G 1664 wP), (aN, eI G 8192 wN)] (S := Bool × (Int → Int)) (fun u => some (.int (iI (pI (u.1 = true))))) (fun u => [(t, eO 0 [.ref aL, .ref aU, .ref aP, .ref aK, .ref aN, .ref aH, .int (iI cu), .int (iI cp), .int (iI (pI (cb = true)))]), (aP, eI G 1664 wP), (aN, eI G 8192 u.2)]) (fun x => (x.1 = true ↔ OKP vt H (U u) S q.toNat) ∧ KN n vt H x.2) := by
  refine Con.mk (by decide +kernel) [some (.ref t), some (.int (iI u)), some (.int (iI S)), some (.int (iI q)), none, none, none] rfl (Nat.le_of_ble_eq_true rfl) rfl ?_
  intro V M EI EL EV EA
  have hEc := hE.1
  obtain ⟨hvt, J, hJ, hj, hz, hx⟩ := hE.2.1 u hu.1 hu.2
  refine M.iloadn (pc := 0) 1 rfl rfl dX0_partsEnough_0 ?_
  refine M.bipush (pc := 1) (by decide +kernel) dX0_partsEnough_1 ?_
  refine M.imul (pc := 3) dX0_partsEnough_3 ?_
  refine M.istore (pc := 4) (i := 4) (Nat.le_of_ble_eq_true rfl) rfl dX0_partsEnough_4 ?_
  dsimp only [List.set_cons_zero, List.set_cons_succ]
  have L6 : ∀ (fu : Nat) {j : Int} {N2 : Int → Int}, (0 ≤ j ∧ j ≤ J) → (∀ i, 0 ≤ i → i < j → land S (wP (u * 13 + i)) ≠ S ∧ NL vt H q.toNat (land S (wP (u * 13 + i)))) → (KN n vt H N2) → (13 - j).toNat < fu → V 0 0 6 [(t, eO 0 [.ref aL, .ref aU, .ref aP, .ref aK, .ref aN, .ref aH, .int (iI cu), .int (iI cp), .int (iI (pI (cb = true)))]), (aP, eI G 1664 wP), (aN, eI G 8192 N2)] [some (.ref t), some (.int (iI u)), some (.int (iI S)), some (.int (iI q)), some (.int (iI (u * 13 + j))), none, none] [] := by
    intro fu
    induction fu with
    | zero => intro j N2 hjj hok hN2 hm; exact absurd hm (Nat.not_lt_zero _)
    | succ fu ih6 =>
      intro j N2 hjj hok hN2 hm6
      refine M.iload (pc := 6) (i := 4) rfl dX0_partsEnough_6 ?_
      refine M.iloadn (pc := 8) 1 rfl rfl dX0_partsEnough_8 ?_
      refine M.iconst (pc := 9) dX0_partsEnough_9 ?_
      refine M.iadd (pc := 10) dX0_partsEnough_10 ?_
      refine M.bipush (pc := 11) (by decide +kernel) dX0_partsEnough_11 ?_
      refine M.imul (pc := 13) dX0_partsEnough_13 ?_
      refine M.icmp_ge (pc := 14) (tgt := 82) dX0_partsEnough_14 (by decide) (by omega) (by omega) (fun c14 => ?_) (fun c14 => ?_)
      · refine M.iconst (pc := 82) dX0_partsEnough_82 ?_
        exact EI (true, N2) _ _ _ _ dX0_partsEnough_83 (Or.inr ⟨rfl, by first | exact Or.inl rfl | exact Or.inr rfl | exact pI_01 _⟩) (rfl) (rfl) (⟨⟨fun _ => OKP.of hS hM.1 hx (by rw [show J = j by omega]; exact hok), fun _ => rfl⟩, hN2⟩)
      · refine M.iload (pc := 17) (i := 4) rfl dX0_partsEnough_17 ?_
        refine M.if_lt (pc := 19) (tgt := 42) dX0_partsEnough_19 (by decide) (by omega) (fun c19 => ?_) (fun c19 => ?_)
        · exact absurd c19 (by omega)
        · refine M.iload (pc := 22) (i := 4) rfl dX0_partsEnough_22 ?_
          refine M.aloadn (pc := 24) 0 rfl rfl dX0_partsEnough_24 ?_
          refine M.getf (pc := 25) fg_X0_19 0 rfl rfl dX0_partsEnough_25 ?_
          refine M.alenI (pc := 28) 1 rfl dX0_partsEnough_28 ?_
          refine M.icmp_ge (pc := 29) (tgt := 42) dX0_partsEnough_29 (by decide) (by omega) (by omega) (fun c29 => ?_) (fun c29 => ?_)
          · exact absurd c29 (by omega)
          · refine M.aloadn (pc := 32) 0 rfl rfl dX0_partsEnough_32 ?_
            refine M.getf (pc := 33) fg_X0_19 0 rfl rfl dX0_partsEnough_33 ?_
            refine M.iload (pc := 36) (i := 4) rfl dX0_partsEnough_36 ?_
            refine M.iald (pc := 38) 1 rfl (by omega) (by omega) dX0_partsEnough_38 ?_
            refine M.goto (pc := 39) (tgt := 43) dX0_partsEnough_39 (by decide) ?_
            refine M.istore (pc := 43) (i := 5) (Nat.le_of_ble_eq_true rfl) rfl dX0_partsEnough_43 ?_
            dsimp only [List.set_cons_zero, List.set_cons_succ]
            have hwb : (0 ≤ wP (u * 13 + j) ∧ wP (u * 13 + j) < 8192) ∧ (wP (u * 13 + j) = 0 → j = J) := by
              rcases (by omega : j < J ∨ j = J) with w | w
              · obtain ⟨h1, x, h2, h3⟩ := hj j hjj.1 w
                have h4 : 0 ≤ PT H (U u) (cm (prB n) 13) x ∧ PT H (U u) (cm (prB n) 13) x < 8192 := cm_13b _
                exact ⟨by rw [h3]; exact h4, fun z => absurd z h1⟩
              · have h5 := hz (by omega)
                rw [w, h5]
                exact ⟨by omega, fun _ => rfl⟩
            refine M.iload (pc := 45) (i := 5) rfl dX0_partsEnough_45 ?_
            refine M.if_ne (pc := 47) (tgt := 52) dX0_partsEnough_47 (by decide) (by omega) (fun c47 => ?_) (fun c47 => ?_)
            · have hjJ : j < J := by
                rcases (by omega : j < J ∨ j = J) with w | w
                · exact w
                · exact absurd (by rw [w]; exact hz (by omega)) c47
              have hll := land_b (a := S) (b := wP (u * 13 + j)) hS.1 hwb.1.1
              refine M.iloadn (pc := 52) 2 rfl rfl dX0_partsEnough_52 ?_
              refine M.iload (pc := 53) (i := 5) rfl dX0_partsEnough_53 ?_
              refine M.iand (pc := 55) (land_ok hS.1 hwb.1.1) dX0_partsEnough_55 ?_
              have L74 : ∀ {N3 : Int → Int}, (¬ OKP vt H (U u) S q.toNat) → (KN n vt H N3) → V 0 0 74 [(t, eO 0 [.ref aL, .ref aU, .ref aP, .ref aK, .ref aN, .ref aH, .int (iI cu), .int (iI cp), .int (iI (pI (cb = true)))]), (aP, eI G 1664 wP), (aN, eI G 8192 N3)] [some (.ref t), none, none, none, none, none, none] [] := by
                intro N3 hno hN3
                refine M.iconst (pc := 74) dX0_partsEnough_74 ?_
                exact EI (false, N3) _ _ _ _ dX0_partsEnough_75 (Or.inr ⟨rfl, by first | exact Or.inl rfl | exact Or.inr rfl | exact pI_01 _⟩) (rfl) (rfl) (⟨⟨fun z => absurd (show false = true from z) (by decide), fun z => absurd z hno⟩, hN3⟩)
              refine M.istore (pc := 56) (i := 6) (Nat.le_of_ble_eq_true rfl) rfl dX0_partsEnough_56 ?_
              dsimp only [List.set_cons_zero, List.set_cons_succ]
              refine M.iload (pc := 58) (i := 6) rfl dX0_partsEnough_58 ?_
              refine M.iloadn (pc := 60) 2 rfl rfl dX0_partsEnough_60 ?_
              refine M.icmp_eq (pc := 61) (tgt := 74) dX0_partsEnough_61 (by decide) (by omega) (by omega) (fun c61 => ?_) (fun c61 => ?_)
              · refine M.forget 1 ?_
                dsimp only [List.set_cons_zero, List.set_cons_succ]
                refine M.forget 2 ?_
                dsimp only [List.set_cons_zero, List.set_cons_succ]
                refine M.forget 3 ?_
                dsimp only [List.set_cons_zero, List.set_cons_succ]
                refine M.forget 4 ?_
                dsimp only [List.set_cons_zero, List.set_cons_succ]
                refine M.forget 5 ?_
                dsimp only [List.set_cons_zero, List.set_cons_succ]
                refine M.forget 6 ?_
                dsimp only [List.set_cons_zero, List.set_cons_succ]
                exact L74  (by exact OKP.no hS hM.1 (hj j hjj.1 hjJ).2 (Or.inl c61)) (by exact hN2)
              · refine M.aloadn (pc := 64) 0 rfl rfl dX0_partsEnough_64 ?_
                refine M.iload (pc := 65) (i := 6) rfl dX0_partsEnough_65 ?_
                refine M.iloadn (pc := 67) 3 rfl rfl dX0_partsEnough_67 ?_
                refine M.mS (pc := 68) (c_X0_isEnough_9 (n := n) (U := U) (H := H) (vt := vt) (by first | assumption | omega) (by exact hE) (by omega) (by exact hM.sub (fun d hd => (me_land hd).1)) (by exact hq) (by exact hN2)) ms_X0_114 [0, 1, 2] rfl rfl rfl rfl (Nat.le_of_ble_eq_true rfl) rfl ⟨(Nat.le_of_ble_eq_true rfl), (Nat.le_of_ble_eq_true rfl)⟩ ⟨(Nat.le_of_ble_eq_true rfl), (Nat.le_of_ble_eq_true rfl)⟩ rfl (fun _ => rfl) dX0_partsEnough_68 (fun u68 hu68 => ?_)
                obtain ⟨r68, N68⟩ := u68
                dsimp only [putL, List.set_cons_zero, List.set_cons_succ, Option.toList, List.cons_append, List.nil_append] at hu68 ⊢
                refine M.if_neP (pc := 71) (tgt := 76) dX0_partsEnough_71 (by decide) (fun c71 => ?_) (fun c71 => ?_)
                · refine M.iinc (pc := 76) (i := 4) rfl rfl dX0_partsEnough_76 ?_
                  dsimp only [List.set_cons_zero, List.set_cons_succ]
                  refine M.goto (pc := 79) (tgt := 6) dX0_partsEnough_79 (by decide) ?_
                  refine M.forget 5 ?_
                  dsimp only [List.set_cons_zero, List.set_cons_succ]
                  refine M.forget 6 ?_
                  dsimp only [List.set_cons_zero, List.set_cons_succ]
                  rw [show u * 13 + j + 1 = u * 13 + (j + 1) by omega]
                  exact ih6  (by first | assumption | omega) (by intro i h0 h1; rcases (by omega : i < j ∨ i = j) with w | w; exact hok i h0 w; rw [w]; exact ⟨c61, hu68.1.mp c71⟩) (by exact hu68.2) (by omega)
                · refine M.forget 1 ?_
                  dsimp only [List.set_cons_zero, List.set_cons_succ]
                  refine M.forget 2 ?_
                  dsimp only [List.set_cons_zero, List.set_cons_succ]
                  refine M.forget 3 ?_
                  dsimp only [List.set_cons_zero, List.set_cons_succ]
                  refine M.forget 4 ?_
                  dsimp only [List.set_cons_zero, List.set_cons_succ]
                  refine M.forget 5 ?_
                  dsimp only [List.set_cons_zero, List.set_cons_succ]
                  refine M.forget 6 ?_
                  dsimp only [List.set_cons_zero, List.set_cons_succ]
                  exact L74  (by exact OKP.no hS hM.1 (hj j hjj.1 hjJ).2 (Or.inr (fun z => c71 (hu68.1.mpr z)))) (by exact hu68.2)
            · refine M.iconst (pc := 50) dX0_partsEnough_50 ?_
              exact EI (true, N2) _ _ _ _ dX0_partsEnough_51 (Or.inr ⟨rfl, by first | exact Or.inl rfl | exact Or.inr rfl | exact pI_01 _⟩) (rfl) (rfl) (⟨⟨fun _ => OKP.of hS hM.1 hx (by rw [← hwb.2 c47]; exact hok), fun _ => rfl⟩, hN2⟩)
  rw [show u * 13 = u * 13 + 0 by omega]
  exact L6 _ (j := 0) (by first | assumption | omega) (by intro i _ h; omega) (by first | assumption | omega) (Nat.lt_succ_self _)
set_option maxHeartbeats 4000000 in
set_option maxRecDepth 100000 in
theorem c_X0_isEnough_10 {l : Launch} {G : GT} {t aL aU aP aK aN aH : Nat} {cu cp : Int} {cb : Bool} {wP : Int → Int} {wN : Int → Int} {U : Int → Int} {H : Int → Int → Int} {n : Int} {vt : Int → Prop} {S q : Int} (hn : 0 ≤ n ∧ n ≤ 6) (hE : TBE n vt H cu U wP) (hS : 0 ≤ S ∧ S < 8192) (hM : MGD n vt H S) (hq : 0 ≤ q ∧ q ≤ 10) (hN : KN n vt H wN) : Con l G yX0_isEnough cX0_isEnough 7 (some .boolean) { frames := 20, cells := 0, slots := 0, locals := 520 } [.ref t, .int (iI S), .int (iI q)] [(t, eO 0 [.ref aL, .ref aU, .ref aP, .ref aK, .ref aN, .ref aH, .int (iI cu), .int (iI cp), .int (iI (pI (cb = true)))]), (aP, eI G 1664 wP), (aN, eI G 8192 wN)] (S := Bool × (Int → Int)) (fun u => some (.int (iI (pI (u.1 = true))))) (fun u => [(t, eO 0 [.ref aL, .ref aU, .ref aP, .ref aK, .ref aN, .ref aH, .int (iI cu), .int (iI cp), .int (iI (pI (cb = true)))]), (aP, eI G 1664 wP), (aN, eI G 8192 u.2)]) (fun u => (u.1 = true ↔ NL vt H q.toNat S) ∧ KN n vt H u.2) := by
  refine Con.mk (by decide +kernel) [some (.ref t), some (.int (iI S)), some (.int (iI q)), none, none, none, none] rfl (Nat.le_of_ble_eq_true rfl) rfl ?_
  intro V M EI EL EV EA
  obtain ⟨h1a, h1b, h1c, h1d⟩ := one_ok hS
  have hkn := hN S hS hM
  have hkb := hkn.1
  have hEc := hE.1
  have hy0 : sub1 S = 0 → NL0 vt H S := fun z c d hc hd => by rw [h1c z c d hc hd]; exact fun _ _ => rfl
  have hn0 : sub1 S ≠ 0 → ¬ NL0 vt H S := fun z w => by
    obtain ⟨c, d, hc, hd, hcd⟩ := h1d z
    exact hcd (hM.2 c d hc hd (w c d hc hd))
  refine M.iloadn (pc := 0) 1 rfl rfl dX0_isEnough_0 ?_
  refine M.iloadn (pc := 1) 1 rfl rfl dX0_isEnough_1 ?_
  refine M.iconst (pc := 2) dX0_isEnough_2 ?_
  refine M.isub (pc := 3) dX0_isEnough_3 ?_
  refine M.iand (pc := 4) (h1a) dX0_isEnough_4 ?_
  refine M.if_ne (pc := 5) (tgt := 10) dX0_isEnough_5 (by decide) (by omega) (fun c5 => ?_) (fun c5 => ?_)
  · refine M.iloadn (pc := 10) 2 rfl rfl dX0_isEnough_10 ?_
    refine M.if_le (pc := 11) (tgt := 27) dX0_isEnough_11 (by decide) (by omega) (fun c11 => ?_) (fun c11 => ?_)
    · refine M.iconst (pc := 27) dX0_isEnough_27 ?_
      exact EI (false, wN) _ _ _ _ dX0_isEnough_28 (Or.inr ⟨rfl, by first | exact Or.inl rfl | exact Or.inr rfl | exact pI_01 _⟩) (rfl) (rfl) (⟨⟨fun z => absurd (show false = true from z) (by decide), fun z => absurd (show NL vt H 0 S by rw [show q.toNat = 0 by omega] at z; exact z) (hn0 c5)⟩, hN⟩)
    · refine M.iloadn (pc := 14) 1 rfl rfl dX0_isEnough_14 ?_
      refine M.if_lt (pc := 15) (tgt := 27) dX0_isEnough_15 (by decide) (by omega) (fun c15 => ?_) (fun c15 => ?_)
      · exact absurd c15 (by omega)
      · refine M.iloadn (pc := 18) 1 rfl rfl dX0_isEnough_18 ?_
        refine M.aloadn (pc := 19) 0 rfl rfl dX0_isEnough_19 ?_
        refine M.getf (pc := 20) fg_X0_25 0 rfl rfl dX0_isEnough_20 ?_
        refine M.alenI (pc := 23) 2 rfl dX0_isEnough_23 ?_
        refine M.icmp_lt (pc := 24) (tgt := 29) dX0_isEnough_24 (by decide) (by omega) (by omega) (fun c24 => ?_) (fun c24 => ?_)
        · refine M.aloadn (pc := 29) 0 rfl rfl dX0_isEnough_29 ?_
          refine M.getf (pc := 30) fg_X0_25 0 rfl rfl dX0_isEnough_30 ?_
          refine M.iloadn (pc := 33) 1 rfl rfl dX0_isEnough_33 ?_
          refine M.iald (pc := 34) 2 rfl (by omega) (by omega) dX0_isEnough_34 ?_
          refine M.bipush (pc := 35) (by decide +kernel) dX0_isEnough_35 ?_
          refine M.iand (pc := 37) (and15 (by omega)) dX0_isEnough_37 ?_
          refine M.istoren (pc := 38) 3 rfl (Nat.le_of_ble_eq_true rfl) rfl dX0_isEnough_38 ?_
          dsimp only [List.set_cons_zero, List.set_cons_succ]
          refine M.aloadn (pc := 39) 0 rfl rfl dX0_isEnough_39 ?_
          refine M.getf (pc := 40) fg_X0_25 0 rfl rfl dX0_isEnough_40 ?_
          refine M.iloadn (pc := 43) 1 rfl rfl dX0_isEnough_43 ?_
          refine M.iald (pc := 44) 2 rfl (by omega) (by omega) dX0_isEnough_44 ?_
          refine M.iconst (pc := 45) dX0_isEnough_45 ?_
          refine M.ishr (pc := 46) (shr4 (by omega) (by omega)) dX0_isEnough_46 ?_
          refine M.istore (pc := 47) (i := 4) (Nat.le_of_ble_eq_true rfl) rfl dX0_isEnough_47 ?_
          dsimp only [List.set_cons_zero, List.set_cons_succ]
          have L75 : ∀ {r : Bool}, (r = true ↔ NL vt H q.toNat S) → V 0 0 75 [(t, eO 0 [.ref aL, .ref aU, .ref aP, .ref aK, .ref aN, .ref aH, .int (iI cu), .int (iI cp), .int (iI (pI (cb = true)))]), (aP, eI G 1664 wP), (aN, eI G 8192 wN)] [some (.ref t), none, none, none, none, none, none] [.int (iI (pI (r = true)))] := by
            intro r hr
            exact EI (r, wN) _ _ _ _ dX0_isEnough_75 (Or.inr ⟨rfl, by first | exact Or.inl rfl | exact Or.inr rfl | exact pI_01 _⟩) (rfl) (rfl) (⟨hr, hN⟩)
          refine M.iloadn (pc := 49) 2 rfl rfl dX0_isEnough_49 ?_
          refine M.iloadn (pc := 50) 3 rfl rfl dX0_isEnough_50 ?_
          refine M.icmp_le (pc := 51) (tgt := 65) dX0_isEnough_51 (by decide) (by omega) (by omega) (fun c51 => ?_) (fun c51 => ?_)
          · refine M.iloadn (pc := 65) 2 rfl rfl dX0_isEnough_65 ?_
            refine M.iloadn (pc := 66) 3 rfl rfl dX0_isEnough_66 ?_
            refine M.icmp_le (pc := 67) (tgt := 74) dX0_isEnough_67 (by decide) (by omega) (by omega) (fun c67 => ?_) (fun c67 => ?_)
            · refine M.iconst (pc := 74) dX0_isEnough_74 ?_
              refine M.forget 1 ?_
              dsimp only [List.set_cons_zero, List.set_cons_succ]
              refine M.forget 2 ?_
              dsimp only [List.set_cons_zero, List.set_cons_succ]
              refine M.forget 3 ?_
              dsimp only [List.set_cons_zero, List.set_cons_succ]
              refine M.forget 4 ?_
              dsimp only [List.set_cons_zero, List.set_cons_succ]
              exact L75 (r := false) (by exact ⟨fun z => absurd z (by decide), fun z => absurd (NL.up (by omega) z) (hkn.2.1 (by omega))⟩)
            · refine M.iconst (pc := 70) dX0_isEnough_70 ?_
              refine M.goto (pc := 71) (tgt := 75) dX0_isEnough_71 (by decide) ?_
              refine M.forget 1 ?_
              dsimp only [List.set_cons_zero, List.set_cons_succ]
              refine M.forget 2 ?_
              dsimp only [List.set_cons_zero, List.set_cons_succ]
              refine M.forget 3 ?_
              dsimp only [List.set_cons_zero, List.set_cons_succ]
              refine M.forget 4 ?_
              dsimp only [List.set_cons_zero, List.set_cons_succ]
              exact L75 (r := true) (by exact ⟨fun _ => (by first | exact absurd c51 (by omega) | exact (hkn.2.2 c56).up (by omega)), fun _ => rfl⟩)
          · refine M.iload (pc := 54) (i := 4) rfl dX0_isEnough_54 ?_
            refine M.if_eq (pc := 56) (tgt := 76) dX0_isEnough_56 (by decide) (by omega) (fun c56 => ?_) (fun c56 => ?_)
            · refine M.iconst (pc := 76) dX0_isEnough_76 ?_
              refine M.istore (pc := 77) (i := 5) (Nat.le_of_ble_eq_true rfl) rfl dX0_isEnough_77 ?_
              dsimp only [List.set_cons_zero, List.set_cons_succ]
              refine M.iconst (pc := 79) dX0_isEnough_79 ?_
              refine M.istore (pc := 80) (i := 6) (Nat.le_of_ble_eq_true rfl) rfl dX0_isEnough_80 ?_
              dsimp only [List.set_cons_zero, List.set_cons_succ]
              have L82 : ∀ (fu : Nat) {f : Bool} {u : Int} {N2 : Int → Int}, (0 ≤ u ∧ u ≤ cu) → ((f = true → NL vt H q.toNat S) ∧ (f = false → ∀ v, 0 ≤ v → v < u → ¬ OKP vt H (U v) S (q - 1).toNat)) → (KN n vt H N2) → (cu - u).toNat < fu → V 0 0 82 [(t, eO 0 [.ref aL, .ref aU, .ref aP, .ref aK, .ref aN, .ref aH, .int (iI cu), .int (iI cp), .int (iI (pI (cb = true)))]), (aP, eI G 1664 wP), (aN, eI G 8192 N2)] [some (.ref t), some (.int (iI S)), some (.int (iI q)), some (.int (iI (wN S % 16))), some (.int (iI (wN S / 16))), some (.int (iI (pI (f = true)))), some (.int (iI u))] [] := by
                intro fu
                induction fu with
                | zero => intro f u N2 hu hf hN2 hm; exact absurd hm (Nat.not_lt_zero _)
                | succ fu ih82 =>
                  intro f u N2 hu hf hN2 hm82
                  refine M.iload (pc := 82) (i := 5) rfl dX0_isEnough_82 ?_
                  have L114 : (f = true ↔ NL vt H q.toNat S) → V 0 0 114 [(t, eO 0 [.ref aL, .ref aU, .ref aP, .ref aK, .ref aN, .ref aH, .int (iI cu), .int (iI cp), .int (iI (pI (cb = true)))]), (aP, eI G 1664 wP), (aN, eI G 8192 N2)] [some (.ref t), some (.int (iI S)), some (.int (iI q)), some (.int (iI (wN S % 16))), some (.int (iI (wN S / 16))), some (.int (iI (pI (f = true)))), some (.int (iI u))] [] := by
                    intro  hfin
                    refine M.aloadn (pc := 114) 0 rfl rfl dX0_isEnough_114 ?_
                    refine M.getf (pc := 115) fg_X0_25 0 rfl rfl dX0_isEnough_115 ?_
                    have L138 : ∀ {val : Int}, (KN n vt H (upZ N2 S val)) → V 0 0 138 [(t, eO 0 [.ref aL, .ref aU, .ref aP, .ref aK, .ref aN, .ref aH, .int (iI cu), .int (iI cp), .int (iI (pI (cb = true)))]), (aP, eI G 1664 wP), (aN, eI G 8192 N2)] [some (.ref t), some (.int (iI S)), some (.int (iI q)), some (.int (iI (wN S % 16))), some (.int (iI (wN S / 16))), some (.int (iI (pI (f = true)))), some (.int (iI u))] [.int (iI val), .int (iI S), .ref aN] := by
                      intro val hval
                      refine M.iast (pc := 138) 2 rfl (by omega) (by omega) dX0_isEnough_138 ?_
                      dsimp only [List.set_cons_zero, List.set_cons_succ]
                      refine M.iload (pc := 139) (i := 5) rfl dX0_isEnough_139 ?_
                      exact EI (f, upZ N2 S val) _ _ _ _ dX0_isEnough_141 (Or.inr ⟨rfl, by first | exact Or.inl rfl | exact Or.inr rfl | exact pI_01 _⟩) (rfl) (rfl) (⟨hfin, hval⟩)
                    refine M.iloadn (pc := 118) 1 rfl rfl dX0_isEnough_118 ?_
                    refine M.iload (pc := 119) (i := 5) rfl dX0_isEnough_119 ?_
                    refine M.if_eqP (pc := 121) (tgt := 132) dX0_isEnough_121 (by decide) (fun c121 => ?_) (fun c121 => ?_)
                    · refine M.iloadn (pc := 132) 2 rfl rfl dX0_isEnough_132 ?_
                      refine M.iload (pc := 133) (i := 4) rfl dX0_isEnough_133 ?_
                      refine M.iconst (pc := 135) dX0_isEnough_135 ?_
                      refine M.ishl (pc := 136) (sh4 (by omega)) dX0_isEnough_136 ?_
                      refine M.ior (pc := 137) (or4 (by omega) (by omega)) dX0_isEnough_137 ?_
                      have e1 : (q + wN S / 16 * 16) % 16 = q := by omega
                      have e2 : (q + wN S / 16 * 16) / 16 = wN S / 16 := by omega
                      exact L138  (by exact hN2.up (by rw [e1, e2]; omega) (by rw [e1]; exact fun _ z => c121 (hfin.mpr z)) (by rw [e2]; exact hkn.2.2))
                    · refine M.iloadn (pc := 124) 3 rfl rfl dX0_isEnough_124 ?_
                      refine M.iloadn (pc := 125) 2 rfl rfl dX0_isEnough_125 ?_
                      refine M.iconst (pc := 126) dX0_isEnough_126 ?_
                      refine M.ishl (pc := 127) (sh4 (by omega)) dX0_isEnough_127 ?_
                      refine M.ior (pc := 128) (or4 (by omega) (by omega)) dX0_isEnough_128 ?_
                      refine M.goto (pc := 129) (tgt := 138) dX0_isEnough_129 (by decide) ?_
                      have e1 : (wN S % 16 + q * 16) % 16 = wN S % 16 := by omega
                      have e2 : (wN S % 16 + q * 16) / 16 = q := by omega
                      exact L138  (by exact hN2.up (by rw [e1, e2]; omega) (by rw [e1]; exact hkn.2.1) (by rw [e2]; exact fun _ => hfin.mp c121))
                  refine M.if_neP (pc := 84) (tgt := 114) dX0_isEnough_84 (by decide) (fun c84 => ?_) (fun c84 => ?_)
                  · exact L114  (by exact ⟨fun _ => hf.1 c84, fun _ => c84⟩)
                  · refine M.iload (pc := 87) (i := 6) rfl dX0_isEnough_87 ?_
                    refine M.aloadn (pc := 89) 0 rfl rfl dX0_isEnough_89 ?_
                    refine M.getf (pc := 90) fg_X0_43 0 rfl rfl dX0_isEnough_90 ?_
                    refine M.icmp_ge (pc := 93) (tgt := 114) dX0_isEnough_93 (by decide) (by omega) (by omega) (fun c93 => ?_) (fun c93 => ?_)
                    · exact L114  (by exact ⟨fun z => absurd z c84, fun z => absurd (NL.okp (by omega) (hn0 c5) z) (fun ⟨s, h1, h2⟩ => (hE.cov hn hM.1 h1 h2).elim (fun v hv => hf.2 (Bool.eq_false_iff.mpr c84) v hv.1.1 (by omega) hv.2.2))⟩)
                    · refine M.aloadn (pc := 96) 0 rfl rfl dX0_isEnough_96 ?_
                      refine M.iload (pc := 97) (i := 6) rfl dX0_isEnough_97 ?_
                      refine M.iloadn (pc := 99) 1 rfl rfl dX0_isEnough_99 ?_
                      refine M.iloadn (pc := 100) 2 rfl rfl dX0_isEnough_100 ?_
                      refine M.iconst (pc := 101) dX0_isEnough_101 ?_
                      refine M.isub (pc := 102) dX0_isEnough_102 ?_
                      refine M.mS (pc := 103) (c_X0_partsEnough_9 (n := n) (U := U) (H := H) (vt := vt) (by first | assumption | omega) (by exact hE) (by exact hS) (by exact hM) (by omega) (by exact hN2) (by omega)) ms_X0_118 [0, 1, 2] rfl rfl rfl rfl (Nat.le_of_ble_eq_true rfl) rfl ⟨(Nat.le_of_ble_eq_true rfl), (Nat.le_of_ble_eq_true rfl)⟩ ⟨(Nat.le_of_ble_eq_true rfl), (Nat.le_of_ble_eq_true rfl)⟩ rfl (fun _ => rfl) dX0_isEnough_103 (fun u103 hu103 => ?_)
                      obtain ⟨r103, N103⟩ := u103
                      dsimp only [putL, List.set_cons_zero, List.set_cons_succ, Option.toList, List.cons_append, List.nil_append] at hu103 ⊢
                      refine M.istore (pc := 106) (i := 5) (Nat.le_of_ble_eq_true rfl) rfl dX0_isEnough_106 ?_
                      dsimp only [List.set_cons_zero, List.set_cons_succ]
                      refine M.iinc (pc := 108) (i := 6) rfl rfl dX0_isEnough_108 ?_
                      dsimp only [List.set_cons_zero, List.set_cons_succ]
                      refine M.goto (pc := 111) (tgt := 82) dX0_isEnough_111 (by decide) ?_
                      exact ih82  (by first | assumption | omega) (by exact ⟨fun z => OKP.nl (by omega) (hE.2.1 u hu.1 (by omega)).1 (hu103.1.mp z), fun z v h0 h1 => (by omega : v < u ∨ v = u).elim (fun w => hf.2 (Bool.eq_false_iff.mpr c84) v h0 w) (fun w y => absurd (hu103.1.mpr (by rw [← w]; exact y)) (by show ¬ r103 = true; rw [show r103 = false from z]; decide))⟩) (by exact hu103.2) (by omega)
              exact L82 _ (f := false) (by first | assumption | omega) (by exact ⟨fun z => absurd z (by decide), fun _ v _ h => by omega⟩) (by first | assumption | omega) (Nat.lt_succ_self _)
            · refine M.iloadn (pc := 59) 2 rfl rfl dX0_isEnough_59 ?_
              refine M.iload (pc := 60) (i := 4) rfl dX0_isEnough_60 ?_
              refine M.icmp_lt (pc := 62) (tgt := 76) dX0_isEnough_62 (by decide) (by omega) (by omega) (fun c62 => ?_) (fun c62 => ?_)
              · refine M.iconst (pc := 76) dX0_isEnough_76 ?_
                refine M.istore (pc := 77) (i := 5) (Nat.le_of_ble_eq_true rfl) rfl dX0_isEnough_77 ?_
                dsimp only [List.set_cons_zero, List.set_cons_succ]
                refine M.iconst (pc := 79) dX0_isEnough_79 ?_
                refine M.istore (pc := 80) (i := 6) (Nat.le_of_ble_eq_true rfl) rfl dX0_isEnough_80 ?_
                dsimp only [List.set_cons_zero, List.set_cons_succ]
                have L82 : ∀ (fu : Nat) {f : Bool} {u : Int} {N2 : Int → Int}, (0 ≤ u ∧ u ≤ cu) → ((f = true → NL vt H q.toNat S) ∧ (f = false → ∀ v, 0 ≤ v → v < u → ¬ OKP vt H (U v) S (q - 1).toNat)) → (KN n vt H N2) → (cu - u).toNat < fu → V 0 0 82 [(t, eO 0 [.ref aL, .ref aU, .ref aP, .ref aK, .ref aN, .ref aH, .int (iI cu), .int (iI cp), .int (iI (pI (cb = true)))]), (aP, eI G 1664 wP), (aN, eI G 8192 N2)] [some (.ref t), some (.int (iI S)), some (.int (iI q)), some (.int (iI (wN S % 16))), some (.int (iI (wN S / 16))), some (.int (iI (pI (f = true)))), some (.int (iI u))] [] := by
                  intro fu
                  induction fu with
                  | zero => intro f u N2 hu hf hN2 hm; exact absurd hm (Nat.not_lt_zero _)
                  | succ fu ih82 =>
                    intro f u N2 hu hf hN2 hm82
                    refine M.iload (pc := 82) (i := 5) rfl dX0_isEnough_82 ?_
                    have L114 : (f = true ↔ NL vt H q.toNat S) → V 0 0 114 [(t, eO 0 [.ref aL, .ref aU, .ref aP, .ref aK, .ref aN, .ref aH, .int (iI cu), .int (iI cp), .int (iI (pI (cb = true)))]), (aP, eI G 1664 wP), (aN, eI G 8192 N2)] [some (.ref t), some (.int (iI S)), some (.int (iI q)), some (.int (iI (wN S % 16))), some (.int (iI (wN S / 16))), some (.int (iI (pI (f = true)))), some (.int (iI u))] [] := by
                      intro  hfin
                      refine M.aloadn (pc := 114) 0 rfl rfl dX0_isEnough_114 ?_
                      refine M.getf (pc := 115) fg_X0_25 0 rfl rfl dX0_isEnough_115 ?_
                      have L138 : ∀ {val : Int}, (KN n vt H (upZ N2 S val)) → V 0 0 138 [(t, eO 0 [.ref aL, .ref aU, .ref aP, .ref aK, .ref aN, .ref aH, .int (iI cu), .int (iI cp), .int (iI (pI (cb = true)))]), (aP, eI G 1664 wP), (aN, eI G 8192 N2)] [some (.ref t), some (.int (iI S)), some (.int (iI q)), some (.int (iI (wN S % 16))), some (.int (iI (wN S / 16))), some (.int (iI (pI (f = true)))), some (.int (iI u))] [.int (iI val), .int (iI S), .ref aN] := by
                        intro val hval
                        refine M.iast (pc := 138) 2 rfl (by omega) (by omega) dX0_isEnough_138 ?_
                        dsimp only [List.set_cons_zero, List.set_cons_succ]
                        refine M.iload (pc := 139) (i := 5) rfl dX0_isEnough_139 ?_
                        exact EI (f, upZ N2 S val) _ _ _ _ dX0_isEnough_141 (Or.inr ⟨rfl, by first | exact Or.inl rfl | exact Or.inr rfl | exact pI_01 _⟩) (rfl) (rfl) (⟨hfin, hval⟩)
                      refine M.iloadn (pc := 118) 1 rfl rfl dX0_isEnough_118 ?_
                      refine M.iload (pc := 119) (i := 5) rfl dX0_isEnough_119 ?_
                      refine M.if_eqP (pc := 121) (tgt := 132) dX0_isEnough_121 (by decide) (fun c121 => ?_) (fun c121 => ?_)
                      · refine M.iloadn (pc := 132) 2 rfl rfl dX0_isEnough_132 ?_
                        refine M.iload (pc := 133) (i := 4) rfl dX0_isEnough_133 ?_
                        refine M.iconst (pc := 135) dX0_isEnough_135 ?_
                        refine M.ishl (pc := 136) (sh4 (by omega)) dX0_isEnough_136 ?_
                        refine M.ior (pc := 137) (or4 (by omega) (by omega)) dX0_isEnough_137 ?_
                        have e1 : (q + wN S / 16 * 16) % 16 = q := by omega
                        have e2 : (q + wN S / 16 * 16) / 16 = wN S / 16 := by omega
                        exact L138  (by exact hN2.up (by rw [e1, e2]; omega) (by rw [e1]; exact fun _ z => c121 (hfin.mpr z)) (by rw [e2]; exact hkn.2.2))
                      · refine M.iloadn (pc := 124) 3 rfl rfl dX0_isEnough_124 ?_
                        refine M.iloadn (pc := 125) 2 rfl rfl dX0_isEnough_125 ?_
                        refine M.iconst (pc := 126) dX0_isEnough_126 ?_
                        refine M.ishl (pc := 127) (sh4 (by omega)) dX0_isEnough_127 ?_
                        refine M.ior (pc := 128) (or4 (by omega) (by omega)) dX0_isEnough_128 ?_
                        refine M.goto (pc := 129) (tgt := 138) dX0_isEnough_129 (by decide) ?_
                        have e1 : (wN S % 16 + q * 16) % 16 = wN S % 16 := by omega
                        have e2 : (wN S % 16 + q * 16) / 16 = q := by omega
                        exact L138  (by exact hN2.up (by rw [e1, e2]; omega) (by rw [e1]; exact hkn.2.1) (by rw [e2]; exact fun _ => hfin.mp c121))
                    refine M.if_neP (pc := 84) (tgt := 114) dX0_isEnough_84 (by decide) (fun c84 => ?_) (fun c84 => ?_)
                    · exact L114  (by exact ⟨fun _ => hf.1 c84, fun _ => c84⟩)
                    · refine M.iload (pc := 87) (i := 6) rfl dX0_isEnough_87 ?_
                      refine M.aloadn (pc := 89) 0 rfl rfl dX0_isEnough_89 ?_
                      refine M.getf (pc := 90) fg_X0_43 0 rfl rfl dX0_isEnough_90 ?_
                      refine M.icmp_ge (pc := 93) (tgt := 114) dX0_isEnough_93 (by decide) (by omega) (by omega) (fun c93 => ?_) (fun c93 => ?_)
                      · exact L114  (by exact ⟨fun z => absurd z c84, fun z => absurd (NL.okp (by omega) (hn0 c5) z) (fun ⟨s, h1, h2⟩ => (hE.cov hn hM.1 h1 h2).elim (fun v hv => hf.2 (Bool.eq_false_iff.mpr c84) v hv.1.1 (by omega) hv.2.2))⟩)
                      · refine M.aloadn (pc := 96) 0 rfl rfl dX0_isEnough_96 ?_
                        refine M.iload (pc := 97) (i := 6) rfl dX0_isEnough_97 ?_
                        refine M.iloadn (pc := 99) 1 rfl rfl dX0_isEnough_99 ?_
                        refine M.iloadn (pc := 100) 2 rfl rfl dX0_isEnough_100 ?_
                        refine M.iconst (pc := 101) dX0_isEnough_101 ?_
                        refine M.isub (pc := 102) dX0_isEnough_102 ?_
                        refine M.mS (pc := 103) (c_X0_partsEnough_9 (n := n) (U := U) (H := H) (vt := vt) (by first | assumption | omega) (by exact hE) (by exact hS) (by exact hM) (by omega) (by exact hN2) (by omega)) ms_X0_118 [0, 1, 2] rfl rfl rfl rfl (Nat.le_of_ble_eq_true rfl) rfl ⟨(Nat.le_of_ble_eq_true rfl), (Nat.le_of_ble_eq_true rfl)⟩ ⟨(Nat.le_of_ble_eq_true rfl), (Nat.le_of_ble_eq_true rfl)⟩ rfl (fun _ => rfl) dX0_isEnough_103 (fun u103 hu103 => ?_)
                        obtain ⟨r103, N103⟩ := u103
                        dsimp only [putL, List.set_cons_zero, List.set_cons_succ, Option.toList, List.cons_append, List.nil_append] at hu103 ⊢
                        refine M.istore (pc := 106) (i := 5) (Nat.le_of_ble_eq_true rfl) rfl dX0_isEnough_106 ?_
                        dsimp only [List.set_cons_zero, List.set_cons_succ]
                        refine M.iinc (pc := 108) (i := 6) rfl rfl dX0_isEnough_108 ?_
                        dsimp only [List.set_cons_zero, List.set_cons_succ]
                        refine M.goto (pc := 111) (tgt := 82) dX0_isEnough_111 (by decide) ?_
                        exact ih82  (by first | assumption | omega) (by exact ⟨fun z => OKP.nl (by omega) (hE.2.1 u hu.1 (by omega)).1 (hu103.1.mp z), fun z v h0 h1 => (by omega : v < u ∨ v = u).elim (fun w => hf.2 (Bool.eq_false_iff.mpr c84) v h0 w) (fun w y => absurd (hu103.1.mpr (by rw [← w]; exact y)) (by show ¬ r103 = true; rw [show r103 = false from z]; decide))⟩) (by exact hu103.2) (by omega)
                exact L82 _ (f := false) (by first | assumption | omega) (by exact ⟨fun z => absurd z (by decide), fun _ v _ h => by omega⟩) (by first | assumption | omega) (Nat.lt_succ_self _)
              · refine M.iloadn (pc := 65) 2 rfl rfl dX0_isEnough_65 ?_
                refine M.iloadn (pc := 66) 3 rfl rfl dX0_isEnough_66 ?_
                refine M.icmp_le (pc := 67) (tgt := 74) dX0_isEnough_67 (by decide) (by omega) (by omega) (fun c67 => ?_) (fun c67 => ?_)
                · refine M.iconst (pc := 74) dX0_isEnough_74 ?_
                  refine M.forget 1 ?_
                  dsimp only [List.set_cons_zero, List.set_cons_succ]
                  refine M.forget 2 ?_
                  dsimp only [List.set_cons_zero, List.set_cons_succ]
                  refine M.forget 3 ?_
                  dsimp only [List.set_cons_zero, List.set_cons_succ]
                  refine M.forget 4 ?_
                  dsimp only [List.set_cons_zero, List.set_cons_succ]
                  exact L75 (r := false) (by exact ⟨fun z => absurd z (by decide), fun z => absurd (NL.up (by omega) z) (hkn.2.1 (by omega))⟩)
                · refine M.iconst (pc := 70) dX0_isEnough_70 ?_
                  refine M.goto (pc := 71) (tgt := 75) dX0_isEnough_71 (by decide) ?_
                  refine M.forget 1 ?_
                  dsimp only [List.set_cons_zero, List.set_cons_succ]
                  refine M.forget 2 ?_
                  dsimp only [List.set_cons_zero, List.set_cons_succ]
                  refine M.forget 3 ?_
                  dsimp only [List.set_cons_zero, List.set_cons_succ]
                  refine M.forget 4 ?_
                  dsimp only [List.set_cons_zero, List.set_cons_succ]
                  exact L75 (r := true) (by exact ⟨fun _ => (by first | exact absurd c51 (by omega) | exact (hkn.2.2 c56).up (by omega)), fun _ => rfl⟩)
        · exact absurd c24 (by omega)
  · refine M.iconst (pc := 8) dX0_isEnough_8 ?_
    exact EI (true, wN) _ _ _ _ dX0_isEnough_9 (Or.inr ⟨rfl, by first | exact Or.inl rfl | exact Or.inr rfl | exact pI_01 _⟩) (rfl) (rfl) (⟨⟨fun _ => NL.up (Nat.zero_le _) (show NL vt H 0 S from hy0 c5), fun _ => rfl⟩, hN⟩)
set_option maxHeartbeats 4000000 in
set_option maxRecDepth 100000 in
theorem c_X0_partsEnough_10 {l : Launch} {G : GT} {t aL aU aP aK aN aH : Nat} {cu cp : Int} {cb : Bool} {wP : Int → Int} {wN : Int → Int} {U : Int → Int} {H : Int → Int → Int} {n : Int} {vt : Int → Prop} {u S q : Int} (hn : 0 ≤ n ∧ n ≤ 6) (hE : TBE n vt H cu U wP) (hS : 0 ≤ S ∧ S < 8192) (hM : MGD n vt H S) (hq : 0 ≤ q ∧ q ≤ 10) (hN : KN n vt H wN) (hu : 0 ≤ u ∧ u < cu) : Con l G yX0_partsEnough cX0_partsEnough 7 (some .boolean) { frames := 21, cells := 0, slots := 0, locals := 546 } [.ref t, .int (iI u), .int (iI S), .int (iI q)] [(t, eO 0 [.ref aL, .ref aU, .ref aP, .ref aK, .ref aN, .ref aH, .int (iI cu), .int (iI cp), .int (iI (pI (cb = true)))]), (aP, eI G 1664 wP), (aN, eI G 8192 wN)] (S := Bool × (Int → Int)) (fun u => some (.int (iI (pI (u.1 = true))))) (fun u => [(t, eO 0 [.ref aL, .ref aU, .ref aP, .ref aK, .ref aN, .ref aH, .int (iI cu), .int (iI cp), .int (iI (pI (cb = true)))]), (aP, eI G 1664 wP), (aN, eI G 8192 u.2)]) (fun x => (x.1 = true ↔ OKP vt H (U u) S q.toNat) ∧ KN n vt H x.2) := by
  refine Con.mk (by decide +kernel) [some (.ref t), some (.int (iI u)), some (.int (iI S)), some (.int (iI q)), none, none, none] rfl (Nat.le_of_ble_eq_true rfl) rfl ?_
  intro V M EI EL EV EA
  have hEc := hE.1
  obtain ⟨hvt, J, hJ, hj, hz, hx⟩ := hE.2.1 u hu.1 hu.2
  refine M.iloadn (pc := 0) 1 rfl rfl dX0_partsEnough_0 ?_
  refine M.bipush (pc := 1) (by decide +kernel) dX0_partsEnough_1 ?_
  refine M.imul (pc := 3) dX0_partsEnough_3 ?_
  refine M.istore (pc := 4) (i := 4) (Nat.le_of_ble_eq_true rfl) rfl dX0_partsEnough_4 ?_
  dsimp only [List.set_cons_zero, List.set_cons_succ]
  have L6 : ∀ (fu : Nat) {j : Int} {N2 : Int → Int}, (0 ≤ j ∧ j ≤ J) → (∀ i, 0 ≤ i → i < j → land S (wP (u * 13 + i)) ≠ S ∧ NL vt H q.toNat (land S (wP (u * 13 + i)))) → (KN n vt H N2) → (13 - j).toNat < fu → V 0 0 6 [(t, eO 0 [.ref aL, .ref aU, .ref aP, .ref aK, .ref aN, .ref aH, .int (iI cu), .int (iI cp), .int (iI (pI (cb = true)))]), (aP, eI G 1664 wP), (aN, eI G 8192 N2)] [some (.ref t), some (.int (iI u)), some (.int (iI S)), some (.int (iI q)), some (.int (iI (u * 13 + j))), none, none] [] := by
    intro fu
    induction fu with
    | zero => intro j N2 hjj hok hN2 hm; exact absurd hm (Nat.not_lt_zero _)
    | succ fu ih6 =>
      intro j N2 hjj hok hN2 hm6
      refine M.iload (pc := 6) (i := 4) rfl dX0_partsEnough_6 ?_
      refine M.iloadn (pc := 8) 1 rfl rfl dX0_partsEnough_8 ?_
      refine M.iconst (pc := 9) dX0_partsEnough_9 ?_
      refine M.iadd (pc := 10) dX0_partsEnough_10 ?_
      refine M.bipush (pc := 11) (by decide +kernel) dX0_partsEnough_11 ?_
      refine M.imul (pc := 13) dX0_partsEnough_13 ?_
      refine M.icmp_ge (pc := 14) (tgt := 82) dX0_partsEnough_14 (by decide) (by omega) (by omega) (fun c14 => ?_) (fun c14 => ?_)
      · refine M.iconst (pc := 82) dX0_partsEnough_82 ?_
        exact EI (true, N2) _ _ _ _ dX0_partsEnough_83 (Or.inr ⟨rfl, by first | exact Or.inl rfl | exact Or.inr rfl | exact pI_01 _⟩) (rfl) (rfl) (⟨⟨fun _ => OKP.of hS hM.1 hx (by rw [show J = j by omega]; exact hok), fun _ => rfl⟩, hN2⟩)
      · refine M.iload (pc := 17) (i := 4) rfl dX0_partsEnough_17 ?_
        refine M.if_lt (pc := 19) (tgt := 42) dX0_partsEnough_19 (by decide) (by omega) (fun c19 => ?_) (fun c19 => ?_)
        · exact absurd c19 (by omega)
        · refine M.iload (pc := 22) (i := 4) rfl dX0_partsEnough_22 ?_
          refine M.aloadn (pc := 24) 0 rfl rfl dX0_partsEnough_24 ?_
          refine M.getf (pc := 25) fg_X0_19 0 rfl rfl dX0_partsEnough_25 ?_
          refine M.alenI (pc := 28) 1 rfl dX0_partsEnough_28 ?_
          refine M.icmp_ge (pc := 29) (tgt := 42) dX0_partsEnough_29 (by decide) (by omega) (by omega) (fun c29 => ?_) (fun c29 => ?_)
          · exact absurd c29 (by omega)
          · refine M.aloadn (pc := 32) 0 rfl rfl dX0_partsEnough_32 ?_
            refine M.getf (pc := 33) fg_X0_19 0 rfl rfl dX0_partsEnough_33 ?_
            refine M.iload (pc := 36) (i := 4) rfl dX0_partsEnough_36 ?_
            refine M.iald (pc := 38) 1 rfl (by omega) (by omega) dX0_partsEnough_38 ?_
            refine M.goto (pc := 39) (tgt := 43) dX0_partsEnough_39 (by decide) ?_
            refine M.istore (pc := 43) (i := 5) (Nat.le_of_ble_eq_true rfl) rfl dX0_partsEnough_43 ?_
            dsimp only [List.set_cons_zero, List.set_cons_succ]
            have hwb : (0 ≤ wP (u * 13 + j) ∧ wP (u * 13 + j) < 8192) ∧ (wP (u * 13 + j) = 0 → j = J) := by
              rcases (by omega : j < J ∨ j = J) with w | w
              · obtain ⟨h1, x, h2, h3⟩ := hj j hjj.1 w
                have h4 : 0 ≤ PT H (U u) (cm (prB n) 13) x ∧ PT H (U u) (cm (prB n) 13) x < 8192 := cm_13b _
                exact ⟨by rw [h3]; exact h4, fun z => absurd z h1⟩
              · have h5 := hz (by omega)
                rw [w, h5]
                exact ⟨by omega, fun _ => rfl⟩
            refine M.iload (pc := 45) (i := 5) rfl dX0_partsEnough_45 ?_
            refine M.if_ne (pc := 47) (tgt := 52) dX0_partsEnough_47 (by decide) (by omega) (fun c47 => ?_) (fun c47 => ?_)
            · have hjJ : j < J := by
                rcases (by omega : j < J ∨ j = J) with w | w
                · exact w
                · exact absurd (by rw [w]; exact hz (by omega)) c47
              have hll := land_b (a := S) (b := wP (u * 13 + j)) hS.1 hwb.1.1
              refine M.iloadn (pc := 52) 2 rfl rfl dX0_partsEnough_52 ?_
              refine M.iload (pc := 53) (i := 5) rfl dX0_partsEnough_53 ?_
              refine M.iand (pc := 55) (land_ok hS.1 hwb.1.1) dX0_partsEnough_55 ?_
              have L74 : ∀ {N3 : Int → Int}, (¬ OKP vt H (U u) S q.toNat) → (KN n vt H N3) → V 0 0 74 [(t, eO 0 [.ref aL, .ref aU, .ref aP, .ref aK, .ref aN, .ref aH, .int (iI cu), .int (iI cp), .int (iI (pI (cb = true)))]), (aP, eI G 1664 wP), (aN, eI G 8192 N3)] [some (.ref t), none, none, none, none, none, none] [] := by
                intro N3 hno hN3
                refine M.iconst (pc := 74) dX0_partsEnough_74 ?_
                exact EI (false, N3) _ _ _ _ dX0_partsEnough_75 (Or.inr ⟨rfl, by first | exact Or.inl rfl | exact Or.inr rfl | exact pI_01 _⟩) (rfl) (rfl) (⟨⟨fun z => absurd (show false = true from z) (by decide), fun z => absurd z hno⟩, hN3⟩)
              refine M.istore (pc := 56) (i := 6) (Nat.le_of_ble_eq_true rfl) rfl dX0_partsEnough_56 ?_
              dsimp only [List.set_cons_zero, List.set_cons_succ]
              refine M.iload (pc := 58) (i := 6) rfl dX0_partsEnough_58 ?_
              refine M.iloadn (pc := 60) 2 rfl rfl dX0_partsEnough_60 ?_
              refine M.icmp_eq (pc := 61) (tgt := 74) dX0_partsEnough_61 (by decide) (by omega) (by omega) (fun c61 => ?_) (fun c61 => ?_)
              · refine M.forget 1 ?_
                dsimp only [List.set_cons_zero, List.set_cons_succ]
                refine M.forget 2 ?_
                dsimp only [List.set_cons_zero, List.set_cons_succ]
                refine M.forget 3 ?_
                dsimp only [List.set_cons_zero, List.set_cons_succ]
                refine M.forget 4 ?_
                dsimp only [List.set_cons_zero, List.set_cons_succ]
                refine M.forget 5 ?_
                dsimp only [List.set_cons_zero, List.set_cons_succ]
                refine M.forget 6 ?_
                dsimp only [List.set_cons_zero, List.set_cons_succ]
                exact L74  (by exact OKP.no hS hM.1 (hj j hjj.1 hjJ).2 (Or.inl c61)) (by exact hN2)
              · refine M.aloadn (pc := 64) 0 rfl rfl dX0_partsEnough_64 ?_
                refine M.iload (pc := 65) (i := 6) rfl dX0_partsEnough_65 ?_
                refine M.iloadn (pc := 67) 3 rfl rfl dX0_partsEnough_67 ?_
                refine M.mS (pc := 68) (c_X0_isEnough_10 (n := n) (U := U) (H := H) (vt := vt) (by first | assumption | omega) (by exact hE) (by omega) (by exact hM.sub (fun d hd => (me_land hd).1)) (by exact hq) (by exact hN2)) ms_X0_114 [0, 1, 2] rfl rfl rfl rfl (Nat.le_of_ble_eq_true rfl) rfl ⟨(Nat.le_of_ble_eq_true rfl), (Nat.le_of_ble_eq_true rfl)⟩ ⟨(Nat.le_of_ble_eq_true rfl), (Nat.le_of_ble_eq_true rfl)⟩ rfl (fun _ => rfl) dX0_partsEnough_68 (fun u68 hu68 => ?_)
                obtain ⟨r68, N68⟩ := u68
                dsimp only [putL, List.set_cons_zero, List.set_cons_succ, Option.toList, List.cons_append, List.nil_append] at hu68 ⊢
                refine M.if_neP (pc := 71) (tgt := 76) dX0_partsEnough_71 (by decide) (fun c71 => ?_) (fun c71 => ?_)
                · refine M.iinc (pc := 76) (i := 4) rfl rfl dX0_partsEnough_76 ?_
                  dsimp only [List.set_cons_zero, List.set_cons_succ]
                  refine M.goto (pc := 79) (tgt := 6) dX0_partsEnough_79 (by decide) ?_
                  refine M.forget 5 ?_
                  dsimp only [List.set_cons_zero, List.set_cons_succ]
                  refine M.forget 6 ?_
                  dsimp only [List.set_cons_zero, List.set_cons_succ]
                  rw [show u * 13 + j + 1 = u * 13 + (j + 1) by omega]
                  exact ih6  (by first | assumption | omega) (by intro i h0 h1; rcases (by omega : i < j ∨ i = j) with w | w; exact hok i h0 w; rw [w]; exact ⟨c61, hu68.1.mp c71⟩) (by exact hu68.2) (by omega)
                · refine M.forget 1 ?_
                  dsimp only [List.set_cons_zero, List.set_cons_succ]
                  refine M.forget 2 ?_
                  dsimp only [List.set_cons_zero, List.set_cons_succ]
                  refine M.forget 3 ?_
                  dsimp only [List.set_cons_zero, List.set_cons_succ]
                  refine M.forget 4 ?_
                  dsimp only [List.set_cons_zero, List.set_cons_succ]
                  refine M.forget 5 ?_
                  dsimp only [List.set_cons_zero, List.set_cons_succ]
                  refine M.forget 6 ?_
                  dsimp only [List.set_cons_zero, List.set_cons_succ]
                  exact L74  (by exact OKP.no hS hM.1 (hj j hjj.1 hjJ).2 (Or.inr (fun z => c71 (hu68.1.mpr z)))) (by exact hu68.2)
            · refine M.iconst (pc := 50) dX0_partsEnough_50 ?_
              exact EI (true, N2) _ _ _ _ dX0_partsEnough_51 (Or.inr ⟨rfl, by first | exact Or.inl rfl | exact Or.inr rfl | exact pI_01 _⟩) (rfl) (rfl) (⟨⟨fun _ => OKP.of hS hM.1 hx (by rw [← hwb.2 c47]; exact hok), fun _ => rfl⟩, hN2⟩)
  rw [show u * 13 = u * 13 + 0 by omega]
  exact L6 _ (j := 0) (by first | assumption | omega) (by intro i _ h; omega) (by first | assumption | omega) (Nat.lt_succ_self _)
set_option maxHeartbeats 4000000 in
set_option maxRecDepth 100000 in
theorem c_X0_isEnough_11 {l : Launch} {G : GT} {t aL aU aP aK aN aH : Nat} {cu cp : Int} {cb : Bool} {wP : Int → Int} {wN : Int → Int} {U : Int → Int} {H : Int → Int → Int} {n : Int} {vt : Int → Prop} {S q : Int} (hn : 0 ≤ n ∧ n ≤ 6) (hE : TBE n vt H cu U wP) (hS : 0 ≤ S ∧ S < 8192) (hM : MGD n vt H S) (hq : 0 ≤ q ∧ q ≤ 11) (hN : KN n vt H wN) : Con l G yX0_isEnough cX0_isEnough 7 (some .boolean) { frames := 22, cells := 0, slots := 0, locals := 572 } [.ref t, .int (iI S), .int (iI q)] [(t, eO 0 [.ref aL, .ref aU, .ref aP, .ref aK, .ref aN, .ref aH, .int (iI cu), .int (iI cp), .int (iI (pI (cb = true)))]), (aP, eI G 1664 wP), (aN, eI G 8192 wN)] (S := Bool × (Int → Int)) (fun u => some (.int (iI (pI (u.1 = true))))) (fun u => [(t, eO 0 [.ref aL, .ref aU, .ref aP, .ref aK, .ref aN, .ref aH, .int (iI cu), .int (iI cp), .int (iI (pI (cb = true)))]), (aP, eI G 1664 wP), (aN, eI G 8192 u.2)]) (fun u => (u.1 = true ↔ NL vt H q.toNat S) ∧ KN n vt H u.2) := by
  refine Con.mk (by decide +kernel) [some (.ref t), some (.int (iI S)), some (.int (iI q)), none, none, none, none] rfl (Nat.le_of_ble_eq_true rfl) rfl ?_
  intro V M EI EL EV EA
  obtain ⟨h1a, h1b, h1c, h1d⟩ := one_ok hS
  have hkn := hN S hS hM
  have hkb := hkn.1
  have hEc := hE.1
  have hy0 : sub1 S = 0 → NL0 vt H S := fun z c d hc hd => by rw [h1c z c d hc hd]; exact fun _ _ => rfl
  have hn0 : sub1 S ≠ 0 → ¬ NL0 vt H S := fun z w => by
    obtain ⟨c, d, hc, hd, hcd⟩ := h1d z
    exact hcd (hM.2 c d hc hd (w c d hc hd))
  refine M.iloadn (pc := 0) 1 rfl rfl dX0_isEnough_0 ?_
  refine M.iloadn (pc := 1) 1 rfl rfl dX0_isEnough_1 ?_
  refine M.iconst (pc := 2) dX0_isEnough_2 ?_
  refine M.isub (pc := 3) dX0_isEnough_3 ?_
  refine M.iand (pc := 4) (h1a) dX0_isEnough_4 ?_
  refine M.if_ne (pc := 5) (tgt := 10) dX0_isEnough_5 (by decide) (by omega) (fun c5 => ?_) (fun c5 => ?_)
  · refine M.iloadn (pc := 10) 2 rfl rfl dX0_isEnough_10 ?_
    refine M.if_le (pc := 11) (tgt := 27) dX0_isEnough_11 (by decide) (by omega) (fun c11 => ?_) (fun c11 => ?_)
    · refine M.iconst (pc := 27) dX0_isEnough_27 ?_
      exact EI (false, wN) _ _ _ _ dX0_isEnough_28 (Or.inr ⟨rfl, by first | exact Or.inl rfl | exact Or.inr rfl | exact pI_01 _⟩) (rfl) (rfl) (⟨⟨fun z => absurd (show false = true from z) (by decide), fun z => absurd (show NL vt H 0 S by rw [show q.toNat = 0 by omega] at z; exact z) (hn0 c5)⟩, hN⟩)
    · refine M.iloadn (pc := 14) 1 rfl rfl dX0_isEnough_14 ?_
      refine M.if_lt (pc := 15) (tgt := 27) dX0_isEnough_15 (by decide) (by omega) (fun c15 => ?_) (fun c15 => ?_)
      · exact absurd c15 (by omega)
      · refine M.iloadn (pc := 18) 1 rfl rfl dX0_isEnough_18 ?_
        refine M.aloadn (pc := 19) 0 rfl rfl dX0_isEnough_19 ?_
        refine M.getf (pc := 20) fg_X0_25 0 rfl rfl dX0_isEnough_20 ?_
        refine M.alenI (pc := 23) 2 rfl dX0_isEnough_23 ?_
        refine M.icmp_lt (pc := 24) (tgt := 29) dX0_isEnough_24 (by decide) (by omega) (by omega) (fun c24 => ?_) (fun c24 => ?_)
        · refine M.aloadn (pc := 29) 0 rfl rfl dX0_isEnough_29 ?_
          refine M.getf (pc := 30) fg_X0_25 0 rfl rfl dX0_isEnough_30 ?_
          refine M.iloadn (pc := 33) 1 rfl rfl dX0_isEnough_33 ?_
          refine M.iald (pc := 34) 2 rfl (by omega) (by omega) dX0_isEnough_34 ?_
          refine M.bipush (pc := 35) (by decide +kernel) dX0_isEnough_35 ?_
          refine M.iand (pc := 37) (and15 (by omega)) dX0_isEnough_37 ?_
          refine M.istoren (pc := 38) 3 rfl (Nat.le_of_ble_eq_true rfl) rfl dX0_isEnough_38 ?_
          dsimp only [List.set_cons_zero, List.set_cons_succ]
          refine M.aloadn (pc := 39) 0 rfl rfl dX0_isEnough_39 ?_
          refine M.getf (pc := 40) fg_X0_25 0 rfl rfl dX0_isEnough_40 ?_
          refine M.iloadn (pc := 43) 1 rfl rfl dX0_isEnough_43 ?_
          refine M.iald (pc := 44) 2 rfl (by omega) (by omega) dX0_isEnough_44 ?_
          refine M.iconst (pc := 45) dX0_isEnough_45 ?_
          refine M.ishr (pc := 46) (shr4 (by omega) (by omega)) dX0_isEnough_46 ?_
          refine M.istore (pc := 47) (i := 4) (Nat.le_of_ble_eq_true rfl) rfl dX0_isEnough_47 ?_
          dsimp only [List.set_cons_zero, List.set_cons_succ]
          have L75 : ∀ {r : Bool}, (r = true ↔ NL vt H q.toNat S) → V 0 0 75 [(t, eO 0 [.ref aL, .ref aU, .ref aP, .ref aK, .ref aN, .ref aH, .int (iI cu), .int (iI cp), .int (iI (pI (cb = true)))]), (aP, eI G 1664 wP), (aN, eI G 8192 wN)] [some (.ref t), none, none, none, none, none, none] [.int (iI (pI (r = true)))] := by
            intro r hr
            exact EI (r, wN) _ _ _ _ dX0_isEnough_75 (Or.inr ⟨rfl, by first | exact Or.inl rfl | exact Or.inr rfl | exact pI_01 _⟩) (rfl) (rfl) (⟨hr, hN⟩)
          refine M.iloadn (pc := 49) 2 rfl rfl dX0_isEnough_49 ?_
          refine M.iloadn (pc := 50) 3 rfl rfl dX0_isEnough_50 ?_
          refine M.icmp_le (pc := 51) (tgt := 65) dX0_isEnough_51 (by decide) (by omega) (by omega) (fun c51 => ?_) (fun c51 => ?_)
          · refine M.iloadn (pc := 65) 2 rfl rfl dX0_isEnough_65 ?_
            refine M.iloadn (pc := 66) 3 rfl rfl dX0_isEnough_66 ?_
            refine M.icmp_le (pc := 67) (tgt := 74) dX0_isEnough_67 (by decide) (by omega) (by omega) (fun c67 => ?_) (fun c67 => ?_)
            · refine M.iconst (pc := 74) dX0_isEnough_74 ?_
              refine M.forget 1 ?_
              dsimp only [List.set_cons_zero, List.set_cons_succ]
              refine M.forget 2 ?_
              dsimp only [List.set_cons_zero, List.set_cons_succ]
              refine M.forget 3 ?_
              dsimp only [List.set_cons_zero, List.set_cons_succ]
              refine M.forget 4 ?_
              dsimp only [List.set_cons_zero, List.set_cons_succ]
              exact L75 (r := false) (by exact ⟨fun z => absurd z (by decide), fun z => absurd (NL.up (by omega) z) (hkn.2.1 (by omega))⟩)
            · refine M.iconst (pc := 70) dX0_isEnough_70 ?_
              refine M.goto (pc := 71) (tgt := 75) dX0_isEnough_71 (by decide) ?_
              refine M.forget 1 ?_
              dsimp only [List.set_cons_zero, List.set_cons_succ]
              refine M.forget 2 ?_
              dsimp only [List.set_cons_zero, List.set_cons_succ]
              refine M.forget 3 ?_
              dsimp only [List.set_cons_zero, List.set_cons_succ]
              refine M.forget 4 ?_
              dsimp only [List.set_cons_zero, List.set_cons_succ]
              exact L75 (r := true) (by exact ⟨fun _ => (by first | exact absurd c51 (by omega) | exact (hkn.2.2 c56).up (by omega)), fun _ => rfl⟩)
          · refine M.iload (pc := 54) (i := 4) rfl dX0_isEnough_54 ?_
            refine M.if_eq (pc := 56) (tgt := 76) dX0_isEnough_56 (by decide) (by omega) (fun c56 => ?_) (fun c56 => ?_)
            · refine M.iconst (pc := 76) dX0_isEnough_76 ?_
              refine M.istore (pc := 77) (i := 5) (Nat.le_of_ble_eq_true rfl) rfl dX0_isEnough_77 ?_
              dsimp only [List.set_cons_zero, List.set_cons_succ]
              refine M.iconst (pc := 79) dX0_isEnough_79 ?_
              refine M.istore (pc := 80) (i := 6) (Nat.le_of_ble_eq_true rfl) rfl dX0_isEnough_80 ?_
              dsimp only [List.set_cons_zero, List.set_cons_succ]
              have L82 : ∀ (fu : Nat) {f : Bool} {u : Int} {N2 : Int → Int}, (0 ≤ u ∧ u ≤ cu) → ((f = true → NL vt H q.toNat S) ∧ (f = false → ∀ v, 0 ≤ v → v < u → ¬ OKP vt H (U v) S (q - 1).toNat)) → (KN n vt H N2) → (cu - u).toNat < fu → V 0 0 82 [(t, eO 0 [.ref aL, .ref aU, .ref aP, .ref aK, .ref aN, .ref aH, .int (iI cu), .int (iI cp), .int (iI (pI (cb = true)))]), (aP, eI G 1664 wP), (aN, eI G 8192 N2)] [some (.ref t), some (.int (iI S)), some (.int (iI q)), some (.int (iI (wN S % 16))), some (.int (iI (wN S / 16))), some (.int (iI (pI (f = true)))), some (.int (iI u))] [] := by
                intro fu
                induction fu with
                | zero => intro f u N2 hu hf hN2 hm; exact absurd hm (Nat.not_lt_zero _)
                | succ fu ih82 =>
                  intro f u N2 hu hf hN2 hm82
                  refine M.iload (pc := 82) (i := 5) rfl dX0_isEnough_82 ?_
                  have L114 : (f = true ↔ NL vt H q.toNat S) → V 0 0 114 [(t, eO 0 [.ref aL, .ref aU, .ref aP, .ref aK, .ref aN, .ref aH, .int (iI cu), .int (iI cp), .int (iI (pI (cb = true)))]), (aP, eI G 1664 wP), (aN, eI G 8192 N2)] [some (.ref t), some (.int (iI S)), some (.int (iI q)), some (.int (iI (wN S % 16))), some (.int (iI (wN S / 16))), some (.int (iI (pI (f = true)))), some (.int (iI u))] [] := by
                    intro  hfin
                    refine M.aloadn (pc := 114) 0 rfl rfl dX0_isEnough_114 ?_
                    refine M.getf (pc := 115) fg_X0_25 0 rfl rfl dX0_isEnough_115 ?_
                    have L138 : ∀ {val : Int}, (KN n vt H (upZ N2 S val)) → V 0 0 138 [(t, eO 0 [.ref aL, .ref aU, .ref aP, .ref aK, .ref aN, .ref aH, .int (iI cu), .int (iI cp), .int (iI (pI (cb = true)))]), (aP, eI G 1664 wP), (aN, eI G 8192 N2)] [some (.ref t), some (.int (iI S)), some (.int (iI q)), some (.int (iI (wN S % 16))), some (.int (iI (wN S / 16))), some (.int (iI (pI (f = true)))), some (.int (iI u))] [.int (iI val), .int (iI S), .ref aN] := by
                      intro val hval
                      refine M.iast (pc := 138) 2 rfl (by omega) (by omega) dX0_isEnough_138 ?_
                      dsimp only [List.set_cons_zero, List.set_cons_succ]
                      refine M.iload (pc := 139) (i := 5) rfl dX0_isEnough_139 ?_
                      exact EI (f, upZ N2 S val) _ _ _ _ dX0_isEnough_141 (Or.inr ⟨rfl, by first | exact Or.inl rfl | exact Or.inr rfl | exact pI_01 _⟩) (rfl) (rfl) (⟨hfin, hval⟩)
                    refine M.iloadn (pc := 118) 1 rfl rfl dX0_isEnough_118 ?_
                    refine M.iload (pc := 119) (i := 5) rfl dX0_isEnough_119 ?_
                    refine M.if_eqP (pc := 121) (tgt := 132) dX0_isEnough_121 (by decide) (fun c121 => ?_) (fun c121 => ?_)
                    · refine M.iloadn (pc := 132) 2 rfl rfl dX0_isEnough_132 ?_
                      refine M.iload (pc := 133) (i := 4) rfl dX0_isEnough_133 ?_
                      refine M.iconst (pc := 135) dX0_isEnough_135 ?_
                      refine M.ishl (pc := 136) (sh4 (by omega)) dX0_isEnough_136 ?_
                      refine M.ior (pc := 137) (or4 (by omega) (by omega)) dX0_isEnough_137 ?_
                      have e1 : (q + wN S / 16 * 16) % 16 = q := by omega
                      have e2 : (q + wN S / 16 * 16) / 16 = wN S / 16 := by omega
                      exact L138  (by exact hN2.up (by rw [e1, e2]; omega) (by rw [e1]; exact fun _ z => c121 (hfin.mpr z)) (by rw [e2]; exact hkn.2.2))
                    · refine M.iloadn (pc := 124) 3 rfl rfl dX0_isEnough_124 ?_
                      refine M.iloadn (pc := 125) 2 rfl rfl dX0_isEnough_125 ?_
                      refine M.iconst (pc := 126) dX0_isEnough_126 ?_
                      refine M.ishl (pc := 127) (sh4 (by omega)) dX0_isEnough_127 ?_
                      refine M.ior (pc := 128) (or4 (by omega) (by omega)) dX0_isEnough_128 ?_
                      refine M.goto (pc := 129) (tgt := 138) dX0_isEnough_129 (by decide) ?_
                      have e1 : (wN S % 16 + q * 16) % 16 = wN S % 16 := by omega
                      have e2 : (wN S % 16 + q * 16) / 16 = q := by omega
                      exact L138  (by exact hN2.up (by rw [e1, e2]; omega) (by rw [e1]; exact hkn.2.1) (by rw [e2]; exact fun _ => hfin.mp c121))
                  refine M.if_neP (pc := 84) (tgt := 114) dX0_isEnough_84 (by decide) (fun c84 => ?_) (fun c84 => ?_)
                  · exact L114  (by exact ⟨fun _ => hf.1 c84, fun _ => c84⟩)
                  · refine M.iload (pc := 87) (i := 6) rfl dX0_isEnough_87 ?_
                    refine M.aloadn (pc := 89) 0 rfl rfl dX0_isEnough_89 ?_
                    refine M.getf (pc := 90) fg_X0_43 0 rfl rfl dX0_isEnough_90 ?_
                    refine M.icmp_ge (pc := 93) (tgt := 114) dX0_isEnough_93 (by decide) (by omega) (by omega) (fun c93 => ?_) (fun c93 => ?_)
                    · exact L114  (by exact ⟨fun z => absurd z c84, fun z => absurd (NL.okp (by omega) (hn0 c5) z) (fun ⟨s, h1, h2⟩ => (hE.cov hn hM.1 h1 h2).elim (fun v hv => hf.2 (Bool.eq_false_iff.mpr c84) v hv.1.1 (by omega) hv.2.2))⟩)
                    · refine M.aloadn (pc := 96) 0 rfl rfl dX0_isEnough_96 ?_
                      refine M.iload (pc := 97) (i := 6) rfl dX0_isEnough_97 ?_
                      refine M.iloadn (pc := 99) 1 rfl rfl dX0_isEnough_99 ?_
                      refine M.iloadn (pc := 100) 2 rfl rfl dX0_isEnough_100 ?_
                      refine M.iconst (pc := 101) dX0_isEnough_101 ?_
                      refine M.isub (pc := 102) dX0_isEnough_102 ?_
                      refine M.mS (pc := 103) (c_X0_partsEnough_10 (n := n) (U := U) (H := H) (vt := vt) (by first | assumption | omega) (by exact hE) (by exact hS) (by exact hM) (by omega) (by exact hN2) (by omega)) ms_X0_118 [0, 1, 2] rfl rfl rfl rfl (Nat.le_of_ble_eq_true rfl) rfl ⟨(Nat.le_of_ble_eq_true rfl), (Nat.le_of_ble_eq_true rfl)⟩ ⟨(Nat.le_of_ble_eq_true rfl), (Nat.le_of_ble_eq_true rfl)⟩ rfl (fun _ => rfl) dX0_isEnough_103 (fun u103 hu103 => ?_)
                      obtain ⟨r103, N103⟩ := u103
                      dsimp only [putL, List.set_cons_zero, List.set_cons_succ, Option.toList, List.cons_append, List.nil_append] at hu103 ⊢
                      refine M.istore (pc := 106) (i := 5) (Nat.le_of_ble_eq_true rfl) rfl dX0_isEnough_106 ?_
                      dsimp only [List.set_cons_zero, List.set_cons_succ]
                      refine M.iinc (pc := 108) (i := 6) rfl rfl dX0_isEnough_108 ?_
                      dsimp only [List.set_cons_zero, List.set_cons_succ]
                      refine M.goto (pc := 111) (tgt := 82) dX0_isEnough_111 (by decide) ?_
                      exact ih82  (by first | assumption | omega) (by exact ⟨fun z => OKP.nl (by omega) (hE.2.1 u hu.1 (by omega)).1 (hu103.1.mp z), fun z v h0 h1 => (by omega : v < u ∨ v = u).elim (fun w => hf.2 (Bool.eq_false_iff.mpr c84) v h0 w) (fun w y => absurd (hu103.1.mpr (by rw [← w]; exact y)) (by show ¬ r103 = true; rw [show r103 = false from z]; decide))⟩) (by exact hu103.2) (by omega)
              exact L82 _ (f := false) (by first | assumption | omega) (by exact ⟨fun z => absurd z (by decide), fun _ v _ h => by omega⟩) (by first | assumption | omega) (Nat.lt_succ_self _)
            · refine M.iloadn (pc := 59) 2 rfl rfl dX0_isEnough_59 ?_
              refine M.iload (pc := 60) (i := 4) rfl dX0_isEnough_60 ?_
              refine M.icmp_lt (pc := 62) (tgt := 76) dX0_isEnough_62 (by decide) (by omega) (by omega) (fun c62 => ?_) (fun c62 => ?_)
              · refine M.iconst (pc := 76) dX0_isEnough_76 ?_
                refine M.istore (pc := 77) (i := 5) (Nat.le_of_ble_eq_true rfl) rfl dX0_isEnough_77 ?_
                dsimp only [List.set_cons_zero, List.set_cons_succ]
                refine M.iconst (pc := 79) dX0_isEnough_79 ?_
                refine M.istore (pc := 80) (i := 6) (Nat.le_of_ble_eq_true rfl) rfl dX0_isEnough_80 ?_
                dsimp only [List.set_cons_zero, List.set_cons_succ]
                have L82 : ∀ (fu : Nat) {f : Bool} {u : Int} {N2 : Int → Int}, (0 ≤ u ∧ u ≤ cu) → ((f = true → NL vt H q.toNat S) ∧ (f = false → ∀ v, 0 ≤ v → v < u → ¬ OKP vt H (U v) S (q - 1).toNat)) → (KN n vt H N2) → (cu - u).toNat < fu → V 0 0 82 [(t, eO 0 [.ref aL, .ref aU, .ref aP, .ref aK, .ref aN, .ref aH, .int (iI cu), .int (iI cp), .int (iI (pI (cb = true)))]), (aP, eI G 1664 wP), (aN, eI G 8192 N2)] [some (.ref t), some (.int (iI S)), some (.int (iI q)), some (.int (iI (wN S % 16))), some (.int (iI (wN S / 16))), some (.int (iI (pI (f = true)))), some (.int (iI u))] [] := by
                  intro fu
                  induction fu with
                  | zero => intro f u N2 hu hf hN2 hm; exact absurd hm (Nat.not_lt_zero _)
                  | succ fu ih82 =>
                    intro f u N2 hu hf hN2 hm82
                    refine M.iload (pc := 82) (i := 5) rfl dX0_isEnough_82 ?_
                    have L114 : (f = true ↔ NL vt H q.toNat S) → V 0 0 114 [(t, eO 0 [.ref aL, .ref aU, .ref aP, .ref aK, .ref aN, .ref aH, .int (iI cu), .int (iI cp), .int (iI (pI (cb = true)))]), (aP, eI G 1664 wP), (aN, eI G 8192 N2)] [some (.ref t), some (.int (iI S)), some (.int (iI q)), some (.int (iI (wN S % 16))), some (.int (iI (wN S / 16))), some (.int (iI (pI (f = true)))), some (.int (iI u))] [] := by
                      intro  hfin
                      refine M.aloadn (pc := 114) 0 rfl rfl dX0_isEnough_114 ?_
                      refine M.getf (pc := 115) fg_X0_25 0 rfl rfl dX0_isEnough_115 ?_
                      have L138 : ∀ {val : Int}, (KN n vt H (upZ N2 S val)) → V 0 0 138 [(t, eO 0 [.ref aL, .ref aU, .ref aP, .ref aK, .ref aN, .ref aH, .int (iI cu), .int (iI cp), .int (iI (pI (cb = true)))]), (aP, eI G 1664 wP), (aN, eI G 8192 N2)] [some (.ref t), some (.int (iI S)), some (.int (iI q)), some (.int (iI (wN S % 16))), some (.int (iI (wN S / 16))), some (.int (iI (pI (f = true)))), some (.int (iI u))] [.int (iI val), .int (iI S), .ref aN] := by
                        intro val hval
                        refine M.iast (pc := 138) 2 rfl (by omega) (by omega) dX0_isEnough_138 ?_
                        dsimp only [List.set_cons_zero, List.set_cons_succ]
                        refine M.iload (pc := 139) (i := 5) rfl dX0_isEnough_139 ?_
                        exact EI (f, upZ N2 S val) _ _ _ _ dX0_isEnough_141 (Or.inr ⟨rfl, by first | exact Or.inl rfl | exact Or.inr rfl | exact pI_01 _⟩) (rfl) (rfl) (⟨hfin, hval⟩)
                      refine M.iloadn (pc := 118) 1 rfl rfl dX0_isEnough_118 ?_
                      refine M.iload (pc := 119) (i := 5) rfl dX0_isEnough_119 ?_
                      refine M.if_eqP (pc := 121) (tgt := 132) dX0_isEnough_121 (by decide) (fun c121 => ?_) (fun c121 => ?_)
                      · refine M.iloadn (pc := 132) 2 rfl rfl dX0_isEnough_132 ?_
                        refine M.iload (pc := 133) (i := 4) rfl dX0_isEnough_133 ?_
                        refine M.iconst (pc := 135) dX0_isEnough_135 ?_
                        refine M.ishl (pc := 136) (sh4 (by omega)) dX0_isEnough_136 ?_
                        refine M.ior (pc := 137) (or4 (by omega) (by omega)) dX0_isEnough_137 ?_
                        have e1 : (q + wN S / 16 * 16) % 16 = q := by omega
                        have e2 : (q + wN S / 16 * 16) / 16 = wN S / 16 := by omega
                        exact L138  (by exact hN2.up (by rw [e1, e2]; omega) (by rw [e1]; exact fun _ z => c121 (hfin.mpr z)) (by rw [e2]; exact hkn.2.2))
                      · refine M.iloadn (pc := 124) 3 rfl rfl dX0_isEnough_124 ?_
                        refine M.iloadn (pc := 125) 2 rfl rfl dX0_isEnough_125 ?_
                        refine M.iconst (pc := 126) dX0_isEnough_126 ?_
                        refine M.ishl (pc := 127) (sh4 (by omega)) dX0_isEnough_127 ?_
                        refine M.ior (pc := 128) (or4 (by omega) (by omega)) dX0_isEnough_128 ?_
                        refine M.goto (pc := 129) (tgt := 138) dX0_isEnough_129 (by decide) ?_
                        have e1 : (wN S % 16 + q * 16) % 16 = wN S % 16 := by omega
                        have e2 : (wN S % 16 + q * 16) / 16 = q := by omega
                        exact L138  (by exact hN2.up (by rw [e1, e2]; omega) (by rw [e1]; exact hkn.2.1) (by rw [e2]; exact fun _ => hfin.mp c121))
                    refine M.if_neP (pc := 84) (tgt := 114) dX0_isEnough_84 (by decide) (fun c84 => ?_) (fun c84 => ?_)
                    · exact L114  (by exact ⟨fun _ => hf.1 c84, fun _ => c84⟩)
                    · refine M.iload (pc := 87) (i := 6) rfl dX0_isEnough_87 ?_
                      refine M.aloadn (pc := 89) 0 rfl rfl dX0_isEnough_89 ?_
                      refine M.getf (pc := 90) fg_X0_43 0 rfl rfl dX0_isEnough_90 ?_
                      refine M.icmp_ge (pc := 93) (tgt := 114) dX0_isEnough_93 (by decide) (by omega) (by omega) (fun c93 => ?_) (fun c93 => ?_)
                      · exact L114  (by exact ⟨fun z => absurd z c84, fun z => absurd (NL.okp (by omega) (hn0 c5) z) (fun ⟨s, h1, h2⟩ => (hE.cov hn hM.1 h1 h2).elim (fun v hv => hf.2 (Bool.eq_false_iff.mpr c84) v hv.1.1 (by omega) hv.2.2))⟩)
                      · refine M.aloadn (pc := 96) 0 rfl rfl dX0_isEnough_96 ?_
                        refine M.iload (pc := 97) (i := 6) rfl dX0_isEnough_97 ?_
                        refine M.iloadn (pc := 99) 1 rfl rfl dX0_isEnough_99 ?_
                        refine M.iloadn (pc := 100) 2 rfl rfl dX0_isEnough_100 ?_
                        refine M.iconst (pc := 101) dX0_isEnough_101 ?_
                        refine M.isub (pc := 102) dX0_isEnough_102 ?_
                        refine M.mS (pc := 103) (c_X0_partsEnough_10 (n := n) (U := U) (H := H) (vt := vt) (by first | assumption | omega) (by exact hE) (by exact hS) (by exact hM) (by omega) (by exact hN2) (by omega)) ms_X0_118 [0, 1, 2] rfl rfl rfl rfl (Nat.le_of_ble_eq_true rfl) rfl ⟨(Nat.le_of_ble_eq_true rfl), (Nat.le_of_ble_eq_true rfl)⟩ ⟨(Nat.le_of_ble_eq_true rfl), (Nat.le_of_ble_eq_true rfl)⟩ rfl (fun _ => rfl) dX0_isEnough_103 (fun u103 hu103 => ?_)
                        obtain ⟨r103, N103⟩ := u103
                        dsimp only [putL, List.set_cons_zero, List.set_cons_succ, Option.toList, List.cons_append, List.nil_append] at hu103 ⊢
                        refine M.istore (pc := 106) (i := 5) (Nat.le_of_ble_eq_true rfl) rfl dX0_isEnough_106 ?_
                        dsimp only [List.set_cons_zero, List.set_cons_succ]
                        refine M.iinc (pc := 108) (i := 6) rfl rfl dX0_isEnough_108 ?_
                        dsimp only [List.set_cons_zero, List.set_cons_succ]
                        refine M.goto (pc := 111) (tgt := 82) dX0_isEnough_111 (by decide) ?_
                        exact ih82  (by first | assumption | omega) (by exact ⟨fun z => OKP.nl (by omega) (hE.2.1 u hu.1 (by omega)).1 (hu103.1.mp z), fun z v h0 h1 => (by omega : v < u ∨ v = u).elim (fun w => hf.2 (Bool.eq_false_iff.mpr c84) v h0 w) (fun w y => absurd (hu103.1.mpr (by rw [← w]; exact y)) (by show ¬ r103 = true; rw [show r103 = false from z]; decide))⟩) (by exact hu103.2) (by omega)
                exact L82 _ (f := false) (by first | assumption | omega) (by exact ⟨fun z => absurd z (by decide), fun _ v _ h => by omega⟩) (by first | assumption | omega) (Nat.lt_succ_self _)
              · refine M.iloadn (pc := 65) 2 rfl rfl dX0_isEnough_65 ?_
                refine M.iloadn (pc := 66) 3 rfl rfl dX0_isEnough_66 ?_
                refine M.icmp_le (pc := 67) (tgt := 74) dX0_isEnough_67 (by decide) (by omega) (by omega) (fun c67 => ?_) (fun c67 => ?_)
                · refine M.iconst (pc := 74) dX0_isEnough_74 ?_
                  refine M.forget 1 ?_
                  dsimp only [List.set_cons_zero, List.set_cons_succ]
                  refine M.forget 2 ?_
                  dsimp only [List.set_cons_zero, List.set_cons_succ]
                  refine M.forget 3 ?_
                  dsimp only [List.set_cons_zero, List.set_cons_succ]
                  refine M.forget 4 ?_
                  dsimp only [List.set_cons_zero, List.set_cons_succ]
                  exact L75 (r := false) (by exact ⟨fun z => absurd z (by decide), fun z => absurd (NL.up (by omega) z) (hkn.2.1 (by omega))⟩)
                · refine M.iconst (pc := 70) dX0_isEnough_70 ?_
                  refine M.goto (pc := 71) (tgt := 75) dX0_isEnough_71 (by decide) ?_
                  refine M.forget 1 ?_
                  dsimp only [List.set_cons_zero, List.set_cons_succ]
                  refine M.forget 2 ?_
                  dsimp only [List.set_cons_zero, List.set_cons_succ]
                  refine M.forget 3 ?_
                  dsimp only [List.set_cons_zero, List.set_cons_succ]
                  refine M.forget 4 ?_
                  dsimp only [List.set_cons_zero, List.set_cons_succ]
                  exact L75 (r := true) (by exact ⟨fun _ => (by first | exact absurd c51 (by omega) | exact (hkn.2.2 c56).up (by omega)), fun _ => rfl⟩)
        · exact absurd c24 (by omega)
  · refine M.iconst (pc := 8) dX0_isEnough_8 ?_
    exact EI (true, wN) _ _ _ _ dX0_isEnough_9 (Or.inr ⟨rfl, by first | exact Or.inl rfl | exact Or.inr rfl | exact pI_01 _⟩) (rfl) (rfl) (⟨⟨fun _ => NL.up (Nat.zero_le _) (show NL vt H 0 S from hy0 c5), fun _ => rfl⟩, hN⟩)
set_option maxHeartbeats 4000000 in
set_option maxRecDepth 100000 in
theorem c_X0_partsEnough_11 {l : Launch} {G : GT} {t aL aU aP aK aN aH : Nat} {cu cp : Int} {cb : Bool} {wP : Int → Int} {wN : Int → Int} {U : Int → Int} {H : Int → Int → Int} {n : Int} {vt : Int → Prop} {u S q : Int} (hn : 0 ≤ n ∧ n ≤ 6) (hE : TBE n vt H cu U wP) (hS : 0 ≤ S ∧ S < 8192) (hM : MGD n vt H S) (hq : 0 ≤ q ∧ q ≤ 11) (hN : KN n vt H wN) (hu : 0 ≤ u ∧ u < cu) : Con l G yX0_partsEnough cX0_partsEnough 7 (some .boolean) { frames := 23, cells := 0, slots := 0, locals := 598 } [.ref t, .int (iI u), .int (iI S), .int (iI q)] [(t, eO 0 [.ref aL, .ref aU, .ref aP, .ref aK, .ref aN, .ref aH, .int (iI cu), .int (iI cp), .int (iI (pI (cb = true)))]), (aP, eI G 1664 wP), (aN, eI G 8192 wN)] (S := Bool × (Int → Int)) (fun u => some (.int (iI (pI (u.1 = true))))) (fun u => [(t, eO 0 [.ref aL, .ref aU, .ref aP, .ref aK, .ref aN, .ref aH, .int (iI cu), .int (iI cp), .int (iI (pI (cb = true)))]), (aP, eI G 1664 wP), (aN, eI G 8192 u.2)]) (fun x => (x.1 = true ↔ OKP vt H (U u) S q.toNat) ∧ KN n vt H x.2) := by
  refine Con.mk (by decide +kernel) [some (.ref t), some (.int (iI u)), some (.int (iI S)), some (.int (iI q)), none, none, none] rfl (Nat.le_of_ble_eq_true rfl) rfl ?_
  intro V M EI EL EV EA
  have hEc := hE.1
  obtain ⟨hvt, J, hJ, hj, hz, hx⟩ := hE.2.1 u hu.1 hu.2
  refine M.iloadn (pc := 0) 1 rfl rfl dX0_partsEnough_0 ?_
  refine M.bipush (pc := 1) (by decide +kernel) dX0_partsEnough_1 ?_
  refine M.imul (pc := 3) dX0_partsEnough_3 ?_
  refine M.istore (pc := 4) (i := 4) (Nat.le_of_ble_eq_true rfl) rfl dX0_partsEnough_4 ?_
  dsimp only [List.set_cons_zero, List.set_cons_succ]
  have L6 : ∀ (fu : Nat) {j : Int} {N2 : Int → Int}, (0 ≤ j ∧ j ≤ J) → (∀ i, 0 ≤ i → i < j → land S (wP (u * 13 + i)) ≠ S ∧ NL vt H q.toNat (land S (wP (u * 13 + i)))) → (KN n vt H N2) → (13 - j).toNat < fu → V 0 0 6 [(t, eO 0 [.ref aL, .ref aU, .ref aP, .ref aK, .ref aN, .ref aH, .int (iI cu), .int (iI cp), .int (iI (pI (cb = true)))]), (aP, eI G 1664 wP), (aN, eI G 8192 N2)] [some (.ref t), some (.int (iI u)), some (.int (iI S)), some (.int (iI q)), some (.int (iI (u * 13 + j))), none, none] [] := by
    intro fu
    induction fu with
    | zero => intro j N2 hjj hok hN2 hm; exact absurd hm (Nat.not_lt_zero _)
    | succ fu ih6 =>
      intro j N2 hjj hok hN2 hm6
      refine M.iload (pc := 6) (i := 4) rfl dX0_partsEnough_6 ?_
      refine M.iloadn (pc := 8) 1 rfl rfl dX0_partsEnough_8 ?_
      refine M.iconst (pc := 9) dX0_partsEnough_9 ?_
      refine M.iadd (pc := 10) dX0_partsEnough_10 ?_
      refine M.bipush (pc := 11) (by decide +kernel) dX0_partsEnough_11 ?_
      refine M.imul (pc := 13) dX0_partsEnough_13 ?_
      refine M.icmp_ge (pc := 14) (tgt := 82) dX0_partsEnough_14 (by decide) (by omega) (by omega) (fun c14 => ?_) (fun c14 => ?_)
      · refine M.iconst (pc := 82) dX0_partsEnough_82 ?_
        exact EI (true, N2) _ _ _ _ dX0_partsEnough_83 (Or.inr ⟨rfl, by first | exact Or.inl rfl | exact Or.inr rfl | exact pI_01 _⟩) (rfl) (rfl) (⟨⟨fun _ => OKP.of hS hM.1 hx (by rw [show J = j by omega]; exact hok), fun _ => rfl⟩, hN2⟩)
      · refine M.iload (pc := 17) (i := 4) rfl dX0_partsEnough_17 ?_
        refine M.if_lt (pc := 19) (tgt := 42) dX0_partsEnough_19 (by decide) (by omega) (fun c19 => ?_) (fun c19 => ?_)
        · exact absurd c19 (by omega)
        · refine M.iload (pc := 22) (i := 4) rfl dX0_partsEnough_22 ?_
          refine M.aloadn (pc := 24) 0 rfl rfl dX0_partsEnough_24 ?_
          refine M.getf (pc := 25) fg_X0_19 0 rfl rfl dX0_partsEnough_25 ?_
          refine M.alenI (pc := 28) 1 rfl dX0_partsEnough_28 ?_
          refine M.icmp_ge (pc := 29) (tgt := 42) dX0_partsEnough_29 (by decide) (by omega) (by omega) (fun c29 => ?_) (fun c29 => ?_)
          · exact absurd c29 (by omega)
          · refine M.aloadn (pc := 32) 0 rfl rfl dX0_partsEnough_32 ?_
            refine M.getf (pc := 33) fg_X0_19 0 rfl rfl dX0_partsEnough_33 ?_
            refine M.iload (pc := 36) (i := 4) rfl dX0_partsEnough_36 ?_
            refine M.iald (pc := 38) 1 rfl (by omega) (by omega) dX0_partsEnough_38 ?_
            refine M.goto (pc := 39) (tgt := 43) dX0_partsEnough_39 (by decide) ?_
            refine M.istore (pc := 43) (i := 5) (Nat.le_of_ble_eq_true rfl) rfl dX0_partsEnough_43 ?_
            dsimp only [List.set_cons_zero, List.set_cons_succ]
            have hwb : (0 ≤ wP (u * 13 + j) ∧ wP (u * 13 + j) < 8192) ∧ (wP (u * 13 + j) = 0 → j = J) := by
              rcases (by omega : j < J ∨ j = J) with w | w
              · obtain ⟨h1, x, h2, h3⟩ := hj j hjj.1 w
                have h4 : 0 ≤ PT H (U u) (cm (prB n) 13) x ∧ PT H (U u) (cm (prB n) 13) x < 8192 := cm_13b _
                exact ⟨by rw [h3]; exact h4, fun z => absurd z h1⟩
              · have h5 := hz (by omega)
                rw [w, h5]
                exact ⟨by omega, fun _ => rfl⟩
            refine M.iload (pc := 45) (i := 5) rfl dX0_partsEnough_45 ?_
            refine M.if_ne (pc := 47) (tgt := 52) dX0_partsEnough_47 (by decide) (by omega) (fun c47 => ?_) (fun c47 => ?_)
            · have hjJ : j < J := by
                rcases (by omega : j < J ∨ j = J) with w | w
                · exact w
                · exact absurd (by rw [w]; exact hz (by omega)) c47
              have hll := land_b (a := S) (b := wP (u * 13 + j)) hS.1 hwb.1.1
              refine M.iloadn (pc := 52) 2 rfl rfl dX0_partsEnough_52 ?_
              refine M.iload (pc := 53) (i := 5) rfl dX0_partsEnough_53 ?_
              refine M.iand (pc := 55) (land_ok hS.1 hwb.1.1) dX0_partsEnough_55 ?_
              have L74 : ∀ {N3 : Int → Int}, (¬ OKP vt H (U u) S q.toNat) → (KN n vt H N3) → V 0 0 74 [(t, eO 0 [.ref aL, .ref aU, .ref aP, .ref aK, .ref aN, .ref aH, .int (iI cu), .int (iI cp), .int (iI (pI (cb = true)))]), (aP, eI G 1664 wP), (aN, eI G 8192 N3)] [some (.ref t), none, none, none, none, none, none] [] := by
                intro N3 hno hN3
                refine M.iconst (pc := 74) dX0_partsEnough_74 ?_
                exact EI (false, N3) _ _ _ _ dX0_partsEnough_75 (Or.inr ⟨rfl, by first | exact Or.inl rfl | exact Or.inr rfl | exact pI_01 _⟩) (rfl) (rfl) (⟨⟨fun z => absurd (show false = true from z) (by decide), fun z => absurd z hno⟩, hN3⟩)
              refine M.istore (pc := 56) (i := 6) (Nat.le_of_ble_eq_true rfl) rfl dX0_partsEnough_56 ?_
              dsimp only [List.set_cons_zero, List.set_cons_succ]
              refine M.iload (pc := 58) (i := 6) rfl dX0_partsEnough_58 ?_
              refine M.iloadn (pc := 60) 2 rfl rfl dX0_partsEnough_60 ?_
              refine M.icmp_eq (pc := 61) (tgt := 74) dX0_partsEnough_61 (by decide) (by omega) (by omega) (fun c61 => ?_) (fun c61 => ?_)
              · refine M.forget 1 ?_
                dsimp only [List.set_cons_zero, List.set_cons_succ]
                refine M.forget 2 ?_
                dsimp only [List.set_cons_zero, List.set_cons_succ]
                refine M.forget 3 ?_
                dsimp only [List.set_cons_zero, List.set_cons_succ]
                refine M.forget 4 ?_
                dsimp only [List.set_cons_zero, List.set_cons_succ]
                refine M.forget 5 ?_
                dsimp only [List.set_cons_zero, List.set_cons_succ]
                refine M.forget 6 ?_
                dsimp only [List.set_cons_zero, List.set_cons_succ]
                exact L74  (by exact OKP.no hS hM.1 (hj j hjj.1 hjJ).2 (Or.inl c61)) (by exact hN2)
              · refine M.aloadn (pc := 64) 0 rfl rfl dX0_partsEnough_64 ?_
                refine M.iload (pc := 65) (i := 6) rfl dX0_partsEnough_65 ?_
                refine M.iloadn (pc := 67) 3 rfl rfl dX0_partsEnough_67 ?_
                refine M.mS (pc := 68) (c_X0_isEnough_11 (n := n) (U := U) (H := H) (vt := vt) (by first | assumption | omega) (by exact hE) (by omega) (by exact hM.sub (fun d hd => (me_land hd).1)) (by exact hq) (by exact hN2)) ms_X0_114 [0, 1, 2] rfl rfl rfl rfl (Nat.le_of_ble_eq_true rfl) rfl ⟨(Nat.le_of_ble_eq_true rfl), (Nat.le_of_ble_eq_true rfl)⟩ ⟨(Nat.le_of_ble_eq_true rfl), (Nat.le_of_ble_eq_true rfl)⟩ rfl (fun _ => rfl) dX0_partsEnough_68 (fun u68 hu68 => ?_)
                obtain ⟨r68, N68⟩ := u68
                dsimp only [putL, List.set_cons_zero, List.set_cons_succ, Option.toList, List.cons_append, List.nil_append] at hu68 ⊢
                refine M.if_neP (pc := 71) (tgt := 76) dX0_partsEnough_71 (by decide) (fun c71 => ?_) (fun c71 => ?_)
                · refine M.iinc (pc := 76) (i := 4) rfl rfl dX0_partsEnough_76 ?_
                  dsimp only [List.set_cons_zero, List.set_cons_succ]
                  refine M.goto (pc := 79) (tgt := 6) dX0_partsEnough_79 (by decide) ?_
                  refine M.forget 5 ?_
                  dsimp only [List.set_cons_zero, List.set_cons_succ]
                  refine M.forget 6 ?_
                  dsimp only [List.set_cons_zero, List.set_cons_succ]
                  rw [show u * 13 + j + 1 = u * 13 + (j + 1) by omega]
                  exact ih6  (by first | assumption | omega) (by intro i h0 h1; rcases (by omega : i < j ∨ i = j) with w | w; exact hok i h0 w; rw [w]; exact ⟨c61, hu68.1.mp c71⟩) (by exact hu68.2) (by omega)
                · refine M.forget 1 ?_
                  dsimp only [List.set_cons_zero, List.set_cons_succ]
                  refine M.forget 2 ?_
                  dsimp only [List.set_cons_zero, List.set_cons_succ]
                  refine M.forget 3 ?_
                  dsimp only [List.set_cons_zero, List.set_cons_succ]
                  refine M.forget 4 ?_
                  dsimp only [List.set_cons_zero, List.set_cons_succ]
                  refine M.forget 5 ?_
                  dsimp only [List.set_cons_zero, List.set_cons_succ]
                  refine M.forget 6 ?_
                  dsimp only [List.set_cons_zero, List.set_cons_succ]
                  exact L74  (by exact OKP.no hS hM.1 (hj j hjj.1 hjJ).2 (Or.inr (fun z => c71 (hu68.1.mpr z)))) (by exact hu68.2)
            · refine M.iconst (pc := 50) dX0_partsEnough_50 ?_
              exact EI (true, N2) _ _ _ _ dX0_partsEnough_51 (Or.inr ⟨rfl, by first | exact Or.inl rfl | exact Or.inr rfl | exact pI_01 _⟩) (rfl) (rfl) (⟨⟨fun _ => OKP.of hS hM.1 hx (by rw [← hwb.2 c47]; exact hok), fun _ => rfl⟩, hN2⟩)
  rw [show u * 13 = u * 13 + 0 by omega]
  exact L6 _ (j := 0) (by first | assumption | omega) (by intro i _ h; omega) (by first | assumption | omega) (Nat.lt_succ_self _)
set_option maxHeartbeats 4000000 in
set_option maxRecDepth 100000 in
theorem c_X0_isEnough_12 {l : Launch} {G : GT} {t aL aU aP aK aN aH : Nat} {cu cp : Int} {cb : Bool} {wP : Int → Int} {wN : Int → Int} {U : Int → Int} {H : Int → Int → Int} {n : Int} {vt : Int → Prop} {S q : Int} (hn : 0 ≤ n ∧ n ≤ 6) (hE : TBE n vt H cu U wP) (hS : 0 ≤ S ∧ S < 8192) (hM : MGD n vt H S) (hq : 0 ≤ q ∧ q ≤ 12) (hN : KN n vt H wN) : Con l G yX0_isEnough cX0_isEnough 7 (some .boolean) { frames := 24, cells := 0, slots := 0, locals := 624 } [.ref t, .int (iI S), .int (iI q)] [(t, eO 0 [.ref aL, .ref aU, .ref aP, .ref aK, .ref aN, .ref aH, .int (iI cu), .int (iI cp), .int (iI (pI (cb = true)))]), (aP, eI G 1664 wP), (aN, eI G 8192 wN)] (S := Bool × (Int → Int)) (fun u => some (.int (iI (pI (u.1 = true))))) (fun u => [(t, eO 0 [.ref aL, .ref aU, .ref aP, .ref aK, .ref aN, .ref aH, .int (iI cu), .int (iI cp), .int (iI (pI (cb = true)))]), (aP, eI G 1664 wP), (aN, eI G 8192 u.2)]) (fun u => (u.1 = true ↔ NL vt H q.toNat S) ∧ KN n vt H u.2) := by
  refine Con.mk (by decide +kernel) [some (.ref t), some (.int (iI S)), some (.int (iI q)), none, none, none, none] rfl (Nat.le_of_ble_eq_true rfl) rfl ?_
  intro V M EI EL EV EA
  obtain ⟨h1a, h1b, h1c, h1d⟩ := one_ok hS
  have hkn := hN S hS hM
  have hkb := hkn.1
  have hEc := hE.1
  have hy0 : sub1 S = 0 → NL0 vt H S := fun z c d hc hd => by rw [h1c z c d hc hd]; exact fun _ _ => rfl
  have hn0 : sub1 S ≠ 0 → ¬ NL0 vt H S := fun z w => by
    obtain ⟨c, d, hc, hd, hcd⟩ := h1d z
    exact hcd (hM.2 c d hc hd (w c d hc hd))
  refine M.iloadn (pc := 0) 1 rfl rfl dX0_isEnough_0 ?_
  refine M.iloadn (pc := 1) 1 rfl rfl dX0_isEnough_1 ?_
  refine M.iconst (pc := 2) dX0_isEnough_2 ?_
  refine M.isub (pc := 3) dX0_isEnough_3 ?_
  refine M.iand (pc := 4) (h1a) dX0_isEnough_4 ?_
  refine M.if_ne (pc := 5) (tgt := 10) dX0_isEnough_5 (by decide) (by omega) (fun c5 => ?_) (fun c5 => ?_)
  · refine M.iloadn (pc := 10) 2 rfl rfl dX0_isEnough_10 ?_
    refine M.if_le (pc := 11) (tgt := 27) dX0_isEnough_11 (by decide) (by omega) (fun c11 => ?_) (fun c11 => ?_)
    · refine M.iconst (pc := 27) dX0_isEnough_27 ?_
      exact EI (false, wN) _ _ _ _ dX0_isEnough_28 (Or.inr ⟨rfl, by first | exact Or.inl rfl | exact Or.inr rfl | exact pI_01 _⟩) (rfl) (rfl) (⟨⟨fun z => absurd (show false = true from z) (by decide), fun z => absurd (show NL vt H 0 S by rw [show q.toNat = 0 by omega] at z; exact z) (hn0 c5)⟩, hN⟩)
    · refine M.iloadn (pc := 14) 1 rfl rfl dX0_isEnough_14 ?_
      refine M.if_lt (pc := 15) (tgt := 27) dX0_isEnough_15 (by decide) (by omega) (fun c15 => ?_) (fun c15 => ?_)
      · exact absurd c15 (by omega)
      · refine M.iloadn (pc := 18) 1 rfl rfl dX0_isEnough_18 ?_
        refine M.aloadn (pc := 19) 0 rfl rfl dX0_isEnough_19 ?_
        refine M.getf (pc := 20) fg_X0_25 0 rfl rfl dX0_isEnough_20 ?_
        refine M.alenI (pc := 23) 2 rfl dX0_isEnough_23 ?_
        refine M.icmp_lt (pc := 24) (tgt := 29) dX0_isEnough_24 (by decide) (by omega) (by omega) (fun c24 => ?_) (fun c24 => ?_)
        · refine M.aloadn (pc := 29) 0 rfl rfl dX0_isEnough_29 ?_
          refine M.getf (pc := 30) fg_X0_25 0 rfl rfl dX0_isEnough_30 ?_
          refine M.iloadn (pc := 33) 1 rfl rfl dX0_isEnough_33 ?_
          refine M.iald (pc := 34) 2 rfl (by omega) (by omega) dX0_isEnough_34 ?_
          refine M.bipush (pc := 35) (by decide +kernel) dX0_isEnough_35 ?_
          refine M.iand (pc := 37) (and15 (by omega)) dX0_isEnough_37 ?_
          refine M.istoren (pc := 38) 3 rfl (Nat.le_of_ble_eq_true rfl) rfl dX0_isEnough_38 ?_
          dsimp only [List.set_cons_zero, List.set_cons_succ]
          refine M.aloadn (pc := 39) 0 rfl rfl dX0_isEnough_39 ?_
          refine M.getf (pc := 40) fg_X0_25 0 rfl rfl dX0_isEnough_40 ?_
          refine M.iloadn (pc := 43) 1 rfl rfl dX0_isEnough_43 ?_
          refine M.iald (pc := 44) 2 rfl (by omega) (by omega) dX0_isEnough_44 ?_
          refine M.iconst (pc := 45) dX0_isEnough_45 ?_
          refine M.ishr (pc := 46) (shr4 (by omega) (by omega)) dX0_isEnough_46 ?_
          refine M.istore (pc := 47) (i := 4) (Nat.le_of_ble_eq_true rfl) rfl dX0_isEnough_47 ?_
          dsimp only [List.set_cons_zero, List.set_cons_succ]
          have L75 : ∀ {r : Bool}, (r = true ↔ NL vt H q.toNat S) → V 0 0 75 [(t, eO 0 [.ref aL, .ref aU, .ref aP, .ref aK, .ref aN, .ref aH, .int (iI cu), .int (iI cp), .int (iI (pI (cb = true)))]), (aP, eI G 1664 wP), (aN, eI G 8192 wN)] [some (.ref t), none, none, none, none, none, none] [.int (iI (pI (r = true)))] := by
            intro r hr
            exact EI (r, wN) _ _ _ _ dX0_isEnough_75 (Or.inr ⟨rfl, by first | exact Or.inl rfl | exact Or.inr rfl | exact pI_01 _⟩) (rfl) (rfl) (⟨hr, hN⟩)
          refine M.iloadn (pc := 49) 2 rfl rfl dX0_isEnough_49 ?_
          refine M.iloadn (pc := 50) 3 rfl rfl dX0_isEnough_50 ?_
          refine M.icmp_le (pc := 51) (tgt := 65) dX0_isEnough_51 (by decide) (by omega) (by omega) (fun c51 => ?_) (fun c51 => ?_)
          · refine M.iloadn (pc := 65) 2 rfl rfl dX0_isEnough_65 ?_
            refine M.iloadn (pc := 66) 3 rfl rfl dX0_isEnough_66 ?_
            refine M.icmp_le (pc := 67) (tgt := 74) dX0_isEnough_67 (by decide) (by omega) (by omega) (fun c67 => ?_) (fun c67 => ?_)
            · refine M.iconst (pc := 74) dX0_isEnough_74 ?_
              refine M.forget 1 ?_
              dsimp only [List.set_cons_zero, List.set_cons_succ]
              refine M.forget 2 ?_
              dsimp only [List.set_cons_zero, List.set_cons_succ]
              refine M.forget 3 ?_
              dsimp only [List.set_cons_zero, List.set_cons_succ]
              refine M.forget 4 ?_
              dsimp only [List.set_cons_zero, List.set_cons_succ]
              exact L75 (r := false) (by exact ⟨fun z => absurd z (by decide), fun z => absurd (NL.up (by omega) z) (hkn.2.1 (by omega))⟩)
            · refine M.iconst (pc := 70) dX0_isEnough_70 ?_
              refine M.goto (pc := 71) (tgt := 75) dX0_isEnough_71 (by decide) ?_
              refine M.forget 1 ?_
              dsimp only [List.set_cons_zero, List.set_cons_succ]
              refine M.forget 2 ?_
              dsimp only [List.set_cons_zero, List.set_cons_succ]
              refine M.forget 3 ?_
              dsimp only [List.set_cons_zero, List.set_cons_succ]
              refine M.forget 4 ?_
              dsimp only [List.set_cons_zero, List.set_cons_succ]
              exact L75 (r := true) (by exact ⟨fun _ => (by first | exact absurd c51 (by omega) | exact (hkn.2.2 c56).up (by omega)), fun _ => rfl⟩)
          · refine M.iload (pc := 54) (i := 4) rfl dX0_isEnough_54 ?_
            refine M.if_eq (pc := 56) (tgt := 76) dX0_isEnough_56 (by decide) (by omega) (fun c56 => ?_) (fun c56 => ?_)
            · refine M.iconst (pc := 76) dX0_isEnough_76 ?_
              refine M.istore (pc := 77) (i := 5) (Nat.le_of_ble_eq_true rfl) rfl dX0_isEnough_77 ?_
              dsimp only [List.set_cons_zero, List.set_cons_succ]
              refine M.iconst (pc := 79) dX0_isEnough_79 ?_
              refine M.istore (pc := 80) (i := 6) (Nat.le_of_ble_eq_true rfl) rfl dX0_isEnough_80 ?_
              dsimp only [List.set_cons_zero, List.set_cons_succ]
              have L82 : ∀ (fu : Nat) {f : Bool} {u : Int} {N2 : Int → Int}, (0 ≤ u ∧ u ≤ cu) → ((f = true → NL vt H q.toNat S) ∧ (f = false → ∀ v, 0 ≤ v → v < u → ¬ OKP vt H (U v) S (q - 1).toNat)) → (KN n vt H N2) → (cu - u).toNat < fu → V 0 0 82 [(t, eO 0 [.ref aL, .ref aU, .ref aP, .ref aK, .ref aN, .ref aH, .int (iI cu), .int (iI cp), .int (iI (pI (cb = true)))]), (aP, eI G 1664 wP), (aN, eI G 8192 N2)] [some (.ref t), some (.int (iI S)), some (.int (iI q)), some (.int (iI (wN S % 16))), some (.int (iI (wN S / 16))), some (.int (iI (pI (f = true)))), some (.int (iI u))] [] := by
                intro fu
                induction fu with
                | zero => intro f u N2 hu hf hN2 hm; exact absurd hm (Nat.not_lt_zero _)
                | succ fu ih82 =>
                  intro f u N2 hu hf hN2 hm82
                  refine M.iload (pc := 82) (i := 5) rfl dX0_isEnough_82 ?_
                  have L114 : (f = true ↔ NL vt H q.toNat S) → V 0 0 114 [(t, eO 0 [.ref aL, .ref aU, .ref aP, .ref aK, .ref aN, .ref aH, .int (iI cu), .int (iI cp), .int (iI (pI (cb = true)))]), (aP, eI G 1664 wP), (aN, eI G 8192 N2)] [some (.ref t), some (.int (iI S)), some (.int (iI q)), some (.int (iI (wN S % 16))), some (.int (iI (wN S / 16))), some (.int (iI (pI (f = true)))), some (.int (iI u))] [] := by
                    intro  hfin
                    refine M.aloadn (pc := 114) 0 rfl rfl dX0_isEnough_114 ?_
                    refine M.getf (pc := 115) fg_X0_25 0 rfl rfl dX0_isEnough_115 ?_
                    have L138 : ∀ {val : Int}, (KN n vt H (upZ N2 S val)) → V 0 0 138 [(t, eO 0 [.ref aL, .ref aU, .ref aP, .ref aK, .ref aN, .ref aH, .int (iI cu), .int (iI cp), .int (iI (pI (cb = true)))]), (aP, eI G 1664 wP), (aN, eI G 8192 N2)] [some (.ref t), some (.int (iI S)), some (.int (iI q)), some (.int (iI (wN S % 16))), some (.int (iI (wN S / 16))), some (.int (iI (pI (f = true)))), some (.int (iI u))] [.int (iI val), .int (iI S), .ref aN] := by
                      intro val hval
                      refine M.iast (pc := 138) 2 rfl (by omega) (by omega) dX0_isEnough_138 ?_
                      dsimp only [List.set_cons_zero, List.set_cons_succ]
                      refine M.iload (pc := 139) (i := 5) rfl dX0_isEnough_139 ?_
                      exact EI (f, upZ N2 S val) _ _ _ _ dX0_isEnough_141 (Or.inr ⟨rfl, by first | exact Or.inl rfl | exact Or.inr rfl | exact pI_01 _⟩) (rfl) (rfl) (⟨hfin, hval⟩)
                    refine M.iloadn (pc := 118) 1 rfl rfl dX0_isEnough_118 ?_
                    refine M.iload (pc := 119) (i := 5) rfl dX0_isEnough_119 ?_
                    refine M.if_eqP (pc := 121) (tgt := 132) dX0_isEnough_121 (by decide) (fun c121 => ?_) (fun c121 => ?_)
                    · refine M.iloadn (pc := 132) 2 rfl rfl dX0_isEnough_132 ?_
                      refine M.iload (pc := 133) (i := 4) rfl dX0_isEnough_133 ?_
                      refine M.iconst (pc := 135) dX0_isEnough_135 ?_
                      refine M.ishl (pc := 136) (sh4 (by omega)) dX0_isEnough_136 ?_
                      refine M.ior (pc := 137) (or4 (by omega) (by omega)) dX0_isEnough_137 ?_
                      have e1 : (q + wN S / 16 * 16) % 16 = q := by omega
                      have e2 : (q + wN S / 16 * 16) / 16 = wN S / 16 := by omega
                      exact L138  (by exact hN2.up (by rw [e1, e2]; omega) (by rw [e1]; exact fun _ z => c121 (hfin.mpr z)) (by rw [e2]; exact hkn.2.2))
                    · refine M.iloadn (pc := 124) 3 rfl rfl dX0_isEnough_124 ?_
                      refine M.iloadn (pc := 125) 2 rfl rfl dX0_isEnough_125 ?_
                      refine M.iconst (pc := 126) dX0_isEnough_126 ?_
                      refine M.ishl (pc := 127) (sh4 (by omega)) dX0_isEnough_127 ?_
                      refine M.ior (pc := 128) (or4 (by omega) (by omega)) dX0_isEnough_128 ?_
                      refine M.goto (pc := 129) (tgt := 138) dX0_isEnough_129 (by decide) ?_
                      have e1 : (wN S % 16 + q * 16) % 16 = wN S % 16 := by omega
                      have e2 : (wN S % 16 + q * 16) / 16 = q := by omega
                      exact L138  (by exact hN2.up (by rw [e1, e2]; omega) (by rw [e1]; exact hkn.2.1) (by rw [e2]; exact fun _ => hfin.mp c121))
                  refine M.if_neP (pc := 84) (tgt := 114) dX0_isEnough_84 (by decide) (fun c84 => ?_) (fun c84 => ?_)
                  · exact L114  (by exact ⟨fun _ => hf.1 c84, fun _ => c84⟩)
                  · refine M.iload (pc := 87) (i := 6) rfl dX0_isEnough_87 ?_
                    refine M.aloadn (pc := 89) 0 rfl rfl dX0_isEnough_89 ?_
                    refine M.getf (pc := 90) fg_X0_43 0 rfl rfl dX0_isEnough_90 ?_
                    refine M.icmp_ge (pc := 93) (tgt := 114) dX0_isEnough_93 (by decide) (by omega) (by omega) (fun c93 => ?_) (fun c93 => ?_)
                    · exact L114  (by exact ⟨fun z => absurd z c84, fun z => absurd (NL.okp (by omega) (hn0 c5) z) (fun ⟨s, h1, h2⟩ => (hE.cov hn hM.1 h1 h2).elim (fun v hv => hf.2 (Bool.eq_false_iff.mpr c84) v hv.1.1 (by omega) hv.2.2))⟩)
                    · refine M.aloadn (pc := 96) 0 rfl rfl dX0_isEnough_96 ?_
                      refine M.iload (pc := 97) (i := 6) rfl dX0_isEnough_97 ?_
                      refine M.iloadn (pc := 99) 1 rfl rfl dX0_isEnough_99 ?_
                      refine M.iloadn (pc := 100) 2 rfl rfl dX0_isEnough_100 ?_
                      refine M.iconst (pc := 101) dX0_isEnough_101 ?_
                      refine M.isub (pc := 102) dX0_isEnough_102 ?_
                      refine M.mS (pc := 103) (c_X0_partsEnough_11 (n := n) (U := U) (H := H) (vt := vt) (by first | assumption | omega) (by exact hE) (by exact hS) (by exact hM) (by omega) (by exact hN2) (by omega)) ms_X0_118 [0, 1, 2] rfl rfl rfl rfl (Nat.le_of_ble_eq_true rfl) rfl ⟨(Nat.le_of_ble_eq_true rfl), (Nat.le_of_ble_eq_true rfl)⟩ ⟨(Nat.le_of_ble_eq_true rfl), (Nat.le_of_ble_eq_true rfl)⟩ rfl (fun _ => rfl) dX0_isEnough_103 (fun u103 hu103 => ?_)
                      obtain ⟨r103, N103⟩ := u103
                      dsimp only [putL, List.set_cons_zero, List.set_cons_succ, Option.toList, List.cons_append, List.nil_append] at hu103 ⊢
                      refine M.istore (pc := 106) (i := 5) (Nat.le_of_ble_eq_true rfl) rfl dX0_isEnough_106 ?_
                      dsimp only [List.set_cons_zero, List.set_cons_succ]
                      refine M.iinc (pc := 108) (i := 6) rfl rfl dX0_isEnough_108 ?_
                      dsimp only [List.set_cons_zero, List.set_cons_succ]
                      refine M.goto (pc := 111) (tgt := 82) dX0_isEnough_111 (by decide) ?_
                      exact ih82  (by first | assumption | omega) (by exact ⟨fun z => OKP.nl (by omega) (hE.2.1 u hu.1 (by omega)).1 (hu103.1.mp z), fun z v h0 h1 => (by omega : v < u ∨ v = u).elim (fun w => hf.2 (Bool.eq_false_iff.mpr c84) v h0 w) (fun w y => absurd (hu103.1.mpr (by rw [← w]; exact y)) (by show ¬ r103 = true; rw [show r103 = false from z]; decide))⟩) (by exact hu103.2) (by omega)
              exact L82 _ (f := false) (by first | assumption | omega) (by exact ⟨fun z => absurd z (by decide), fun _ v _ h => by omega⟩) (by first | assumption | omega) (Nat.lt_succ_self _)
            · refine M.iloadn (pc := 59) 2 rfl rfl dX0_isEnough_59 ?_
              refine M.iload (pc := 60) (i := 4) rfl dX0_isEnough_60 ?_
              refine M.icmp_lt (pc := 62) (tgt := 76) dX0_isEnough_62 (by decide) (by omega) (by omega) (fun c62 => ?_) (fun c62 => ?_)
              · refine M.iconst (pc := 76) dX0_isEnough_76 ?_
                refine M.istore (pc := 77) (i := 5) (Nat.le_of_ble_eq_true rfl) rfl dX0_isEnough_77 ?_
                dsimp only [List.set_cons_zero, List.set_cons_succ]
                refine M.iconst (pc := 79) dX0_isEnough_79 ?_
                refine M.istore (pc := 80) (i := 6) (Nat.le_of_ble_eq_true rfl) rfl dX0_isEnough_80 ?_
                dsimp only [List.set_cons_zero, List.set_cons_succ]
                have L82 : ∀ (fu : Nat) {f : Bool} {u : Int} {N2 : Int → Int}, (0 ≤ u ∧ u ≤ cu) → ((f = true → NL vt H q.toNat S) ∧ (f = false → ∀ v, 0 ≤ v → v < u → ¬ OKP vt H (U v) S (q - 1).toNat)) → (KN n vt H N2) → (cu - u).toNat < fu → V 0 0 82 [(t, eO 0 [.ref aL, .ref aU, .ref aP, .ref aK, .ref aN, .ref aH, .int (iI cu), .int (iI cp), .int (iI (pI (cb = true)))]), (aP, eI G 1664 wP), (aN, eI G 8192 N2)] [some (.ref t), some (.int (iI S)), some (.int (iI q)), some (.int (iI (wN S % 16))), some (.int (iI (wN S / 16))), some (.int (iI (pI (f = true)))), some (.int (iI u))] [] := by
                  intro fu
                  induction fu with
                  | zero => intro f u N2 hu hf hN2 hm; exact absurd hm (Nat.not_lt_zero _)
                  | succ fu ih82 =>
                    intro f u N2 hu hf hN2 hm82
                    refine M.iload (pc := 82) (i := 5) rfl dX0_isEnough_82 ?_
                    have L114 : (f = true ↔ NL vt H q.toNat S) → V 0 0 114 [(t, eO 0 [.ref aL, .ref aU, .ref aP, .ref aK, .ref aN, .ref aH, .int (iI cu), .int (iI cp), .int (iI (pI (cb = true)))]), (aP, eI G 1664 wP), (aN, eI G 8192 N2)] [some (.ref t), some (.int (iI S)), some (.int (iI q)), some (.int (iI (wN S % 16))), some (.int (iI (wN S / 16))), some (.int (iI (pI (f = true)))), some (.int (iI u))] [] := by
                      intro  hfin
                      refine M.aloadn (pc := 114) 0 rfl rfl dX0_isEnough_114 ?_
                      refine M.getf (pc := 115) fg_X0_25 0 rfl rfl dX0_isEnough_115 ?_
                      have L138 : ∀ {val : Int}, (KN n vt H (upZ N2 S val)) → V 0 0 138 [(t, eO 0 [.ref aL, .ref aU, .ref aP, .ref aK, .ref aN, .ref aH, .int (iI cu), .int (iI cp), .int (iI (pI (cb = true)))]), (aP, eI G 1664 wP), (aN, eI G 8192 N2)] [some (.ref t), some (.int (iI S)), some (.int (iI q)), some (.int (iI (wN S % 16))), some (.int (iI (wN S / 16))), some (.int (iI (pI (f = true)))), some (.int (iI u))] [.int (iI val), .int (iI S), .ref aN] := by
                        intro val hval
                        refine M.iast (pc := 138) 2 rfl (by omega) (by omega) dX0_isEnough_138 ?_
                        dsimp only [List.set_cons_zero, List.set_cons_succ]
                        refine M.iload (pc := 139) (i := 5) rfl dX0_isEnough_139 ?_
                        exact EI (f, upZ N2 S val) _ _ _ _ dX0_isEnough_141 (Or.inr ⟨rfl, by first | exact Or.inl rfl | exact Or.inr rfl | exact pI_01 _⟩) (rfl) (rfl) (⟨hfin, hval⟩)
                      refine M.iloadn (pc := 118) 1 rfl rfl dX0_isEnough_118 ?_
                      refine M.iload (pc := 119) (i := 5) rfl dX0_isEnough_119 ?_
                      refine M.if_eqP (pc := 121) (tgt := 132) dX0_isEnough_121 (by decide) (fun c121 => ?_) (fun c121 => ?_)
                      · refine M.iloadn (pc := 132) 2 rfl rfl dX0_isEnough_132 ?_
                        refine M.iload (pc := 133) (i := 4) rfl dX0_isEnough_133 ?_
                        refine M.iconst (pc := 135) dX0_isEnough_135 ?_
                        refine M.ishl (pc := 136) (sh4 (by omega)) dX0_isEnough_136 ?_
                        refine M.ior (pc := 137) (or4 (by omega) (by omega)) dX0_isEnough_137 ?_
                        have e1 : (q + wN S / 16 * 16) % 16 = q := by omega
                        have e2 : (q + wN S / 16 * 16) / 16 = wN S / 16 := by omega
                        exact L138  (by exact hN2.up (by rw [e1, e2]; omega) (by rw [e1]; exact fun _ z => c121 (hfin.mpr z)) (by rw [e2]; exact hkn.2.2))
                      · refine M.iloadn (pc := 124) 3 rfl rfl dX0_isEnough_124 ?_
                        refine M.iloadn (pc := 125) 2 rfl rfl dX0_isEnough_125 ?_
                        refine M.iconst (pc := 126) dX0_isEnough_126 ?_
                        refine M.ishl (pc := 127) (sh4 (by omega)) dX0_isEnough_127 ?_
                        refine M.ior (pc := 128) (or4 (by omega) (by omega)) dX0_isEnough_128 ?_
                        refine M.goto (pc := 129) (tgt := 138) dX0_isEnough_129 (by decide) ?_
                        have e1 : (wN S % 16 + q * 16) % 16 = wN S % 16 := by omega
                        have e2 : (wN S % 16 + q * 16) / 16 = q := by omega
                        exact L138  (by exact hN2.up (by rw [e1, e2]; omega) (by rw [e1]; exact hkn.2.1) (by rw [e2]; exact fun _ => hfin.mp c121))
                    refine M.if_neP (pc := 84) (tgt := 114) dX0_isEnough_84 (by decide) (fun c84 => ?_) (fun c84 => ?_)
                    · exact L114  (by exact ⟨fun _ => hf.1 c84, fun _ => c84⟩)
                    · refine M.iload (pc := 87) (i := 6) rfl dX0_isEnough_87 ?_
                      refine M.aloadn (pc := 89) 0 rfl rfl dX0_isEnough_89 ?_
                      refine M.getf (pc := 90) fg_X0_43 0 rfl rfl dX0_isEnough_90 ?_
                      refine M.icmp_ge (pc := 93) (tgt := 114) dX0_isEnough_93 (by decide) (by omega) (by omega) (fun c93 => ?_) (fun c93 => ?_)
                      · exact L114  (by exact ⟨fun z => absurd z c84, fun z => absurd (NL.okp (by omega) (hn0 c5) z) (fun ⟨s, h1, h2⟩ => (hE.cov hn hM.1 h1 h2).elim (fun v hv => hf.2 (Bool.eq_false_iff.mpr c84) v hv.1.1 (by omega) hv.2.2))⟩)
                      · refine M.aloadn (pc := 96) 0 rfl rfl dX0_isEnough_96 ?_
                        refine M.iload (pc := 97) (i := 6) rfl dX0_isEnough_97 ?_
                        refine M.iloadn (pc := 99) 1 rfl rfl dX0_isEnough_99 ?_
                        refine M.iloadn (pc := 100) 2 rfl rfl dX0_isEnough_100 ?_
                        refine M.iconst (pc := 101) dX0_isEnough_101 ?_
                        refine M.isub (pc := 102) dX0_isEnough_102 ?_
                        refine M.mS (pc := 103) (c_X0_partsEnough_11 (n := n) (U := U) (H := H) (vt := vt) (by first | assumption | omega) (by exact hE) (by exact hS) (by exact hM) (by omega) (by exact hN2) (by omega)) ms_X0_118 [0, 1, 2] rfl rfl rfl rfl (Nat.le_of_ble_eq_true rfl) rfl ⟨(Nat.le_of_ble_eq_true rfl), (Nat.le_of_ble_eq_true rfl)⟩ ⟨(Nat.le_of_ble_eq_true rfl), (Nat.le_of_ble_eq_true rfl)⟩ rfl (fun _ => rfl) dX0_isEnough_103 (fun u103 hu103 => ?_)
                        obtain ⟨r103, N103⟩ := u103
                        dsimp only [putL, List.set_cons_zero, List.set_cons_succ, Option.toList, List.cons_append, List.nil_append] at hu103 ⊢
                        refine M.istore (pc := 106) (i := 5) (Nat.le_of_ble_eq_true rfl) rfl dX0_isEnough_106 ?_
                        dsimp only [List.set_cons_zero, List.set_cons_succ]
                        refine M.iinc (pc := 108) (i := 6) rfl rfl dX0_isEnough_108 ?_
                        dsimp only [List.set_cons_zero, List.set_cons_succ]
                        refine M.goto (pc := 111) (tgt := 82) dX0_isEnough_111 (by decide) ?_
                        exact ih82  (by first | assumption | omega) (by exact ⟨fun z => OKP.nl (by omega) (hE.2.1 u hu.1 (by omega)).1 (hu103.1.mp z), fun z v h0 h1 => (by omega : v < u ∨ v = u).elim (fun w => hf.2 (Bool.eq_false_iff.mpr c84) v h0 w) (fun w y => absurd (hu103.1.mpr (by rw [← w]; exact y)) (by show ¬ r103 = true; rw [show r103 = false from z]; decide))⟩) (by exact hu103.2) (by omega)
                exact L82 _ (f := false) (by first | assumption | omega) (by exact ⟨fun z => absurd z (by decide), fun _ v _ h => by omega⟩) (by first | assumption | omega) (Nat.lt_succ_self _)
              · refine M.iloadn (pc := 65) 2 rfl rfl dX0_isEnough_65 ?_
                refine M.iloadn (pc := 66) 3 rfl rfl dX0_isEnough_66 ?_
                refine M.icmp_le (pc := 67) (tgt := 74) dX0_isEnough_67 (by decide) (by omega) (by omega) (fun c67 => ?_) (fun c67 => ?_)
                · refine M.iconst (pc := 74) dX0_isEnough_74 ?_
                  refine M.forget 1 ?_
                  dsimp only [List.set_cons_zero, List.set_cons_succ]
                  refine M.forget 2 ?_
                  dsimp only [List.set_cons_zero, List.set_cons_succ]
                  refine M.forget 3 ?_
                  dsimp only [List.set_cons_zero, List.set_cons_succ]
                  refine M.forget 4 ?_
                  dsimp only [List.set_cons_zero, List.set_cons_succ]
                  exact L75 (r := false) (by exact ⟨fun z => absurd z (by decide), fun z => absurd (NL.up (by omega) z) (hkn.2.1 (by omega))⟩)
                · refine M.iconst (pc := 70) dX0_isEnough_70 ?_
                  refine M.goto (pc := 71) (tgt := 75) dX0_isEnough_71 (by decide) ?_
                  refine M.forget 1 ?_
                  dsimp only [List.set_cons_zero, List.set_cons_succ]
                  refine M.forget 2 ?_
                  dsimp only [List.set_cons_zero, List.set_cons_succ]
                  refine M.forget 3 ?_
                  dsimp only [List.set_cons_zero, List.set_cons_succ]
                  refine M.forget 4 ?_
                  dsimp only [List.set_cons_zero, List.set_cons_succ]
                  exact L75 (r := true) (by exact ⟨fun _ => (by first | exact absurd c51 (by omega) | exact (hkn.2.2 c56).up (by omega)), fun _ => rfl⟩)
        · exact absurd c24 (by omega)
  · refine M.iconst (pc := 8) dX0_isEnough_8 ?_
    exact EI (true, wN) _ _ _ _ dX0_isEnough_9 (Or.inr ⟨rfl, by first | exact Or.inl rfl | exact Or.inr rfl | exact pI_01 _⟩) (rfl) (rfl) (⟨⟨fun _ => NL.up (Nat.zero_le _) (show NL vt H 0 S from hy0 c5), fun _ => rfl⟩, hN⟩)
set_option maxHeartbeats 4000000 in
set_option maxRecDepth 100000 in
theorem c_X0_partsEnough_12 {l : Launch} {G : GT} {t aL aU aP aK aN aH : Nat} {cu cp : Int} {cb : Bool} {wP : Int → Int} {wN : Int → Int} {U : Int → Int} {H : Int → Int → Int} {n : Int} {vt : Int → Prop} {u S q : Int} (hn : 0 ≤ n ∧ n ≤ 6) (hE : TBE n vt H cu U wP) (hS : 0 ≤ S ∧ S < 8192) (hM : MGD n vt H S) (hq : 0 ≤ q ∧ q ≤ 12) (hN : KN n vt H wN) (hu : 0 ≤ u ∧ u < cu) : Con l G yX0_partsEnough cX0_partsEnough 7 (some .boolean) { frames := 25, cells := 0, slots := 0, locals := 650 } [.ref t, .int (iI u), .int (iI S), .int (iI q)] [(t, eO 0 [.ref aL, .ref aU, .ref aP, .ref aK, .ref aN, .ref aH, .int (iI cu), .int (iI cp), .int (iI (pI (cb = true)))]), (aP, eI G 1664 wP), (aN, eI G 8192 wN)] (S := Bool × (Int → Int)) (fun u => some (.int (iI (pI (u.1 = true))))) (fun u => [(t, eO 0 [.ref aL, .ref aU, .ref aP, .ref aK, .ref aN, .ref aH, .int (iI cu), .int (iI cp), .int (iI (pI (cb = true)))]), (aP, eI G 1664 wP), (aN, eI G 8192 u.2)]) (fun x => (x.1 = true ↔ OKP vt H (U u) S q.toNat) ∧ KN n vt H x.2) := by
  refine Con.mk (by decide +kernel) [some (.ref t), some (.int (iI u)), some (.int (iI S)), some (.int (iI q)), none, none, none] rfl (Nat.le_of_ble_eq_true rfl) rfl ?_
  intro V M EI EL EV EA
  have hEc := hE.1
  obtain ⟨hvt, J, hJ, hj, hz, hx⟩ := hE.2.1 u hu.1 hu.2
  refine M.iloadn (pc := 0) 1 rfl rfl dX0_partsEnough_0 ?_
  refine M.bipush (pc := 1) (by decide +kernel) dX0_partsEnough_1 ?_
  refine M.imul (pc := 3) dX0_partsEnough_3 ?_
  refine M.istore (pc := 4) (i := 4) (Nat.le_of_ble_eq_true rfl) rfl dX0_partsEnough_4 ?_
  dsimp only [List.set_cons_zero, List.set_cons_succ]
  have L6 : ∀ (fu : Nat) {j : Int} {N2 : Int → Int}, (0 ≤ j ∧ j ≤ J) → (∀ i, 0 ≤ i → i < j → land S (wP (u * 13 + i)) ≠ S ∧ NL vt H q.toNat (land S (wP (u * 13 + i)))) → (KN n vt H N2) → (13 - j).toNat < fu → V 0 0 6 [(t, eO 0 [.ref aL, .ref aU, .ref aP, .ref aK, .ref aN, .ref aH, .int (iI cu), .int (iI cp), .int (iI (pI (cb = true)))]), (aP, eI G 1664 wP), (aN, eI G 8192 N2)] [some (.ref t), some (.int (iI u)), some (.int (iI S)), some (.int (iI q)), some (.int (iI (u * 13 + j))), none, none] [] := by
    intro fu
    induction fu with
    | zero => intro j N2 hjj hok hN2 hm; exact absurd hm (Nat.not_lt_zero _)
    | succ fu ih6 =>
      intro j N2 hjj hok hN2 hm6
      refine M.iload (pc := 6) (i := 4) rfl dX0_partsEnough_6 ?_
      refine M.iloadn (pc := 8) 1 rfl rfl dX0_partsEnough_8 ?_
      refine M.iconst (pc := 9) dX0_partsEnough_9 ?_
      refine M.iadd (pc := 10) dX0_partsEnough_10 ?_
      refine M.bipush (pc := 11) (by decide +kernel) dX0_partsEnough_11 ?_
      refine M.imul (pc := 13) dX0_partsEnough_13 ?_
      refine M.icmp_ge (pc := 14) (tgt := 82) dX0_partsEnough_14 (by decide) (by omega) (by omega) (fun c14 => ?_) (fun c14 => ?_)
      · refine M.iconst (pc := 82) dX0_partsEnough_82 ?_
        exact EI (true, N2) _ _ _ _ dX0_partsEnough_83 (Or.inr ⟨rfl, by first | exact Or.inl rfl | exact Or.inr rfl | exact pI_01 _⟩) (rfl) (rfl) (⟨⟨fun _ => OKP.of hS hM.1 hx (by rw [show J = j by omega]; exact hok), fun _ => rfl⟩, hN2⟩)
      · refine M.iload (pc := 17) (i := 4) rfl dX0_partsEnough_17 ?_
        refine M.if_lt (pc := 19) (tgt := 42) dX0_partsEnough_19 (by decide) (by omega) (fun c19 => ?_) (fun c19 => ?_)
        · exact absurd c19 (by omega)
        · refine M.iload (pc := 22) (i := 4) rfl dX0_partsEnough_22 ?_
          refine M.aloadn (pc := 24) 0 rfl rfl dX0_partsEnough_24 ?_
          refine M.getf (pc := 25) fg_X0_19 0 rfl rfl dX0_partsEnough_25 ?_
          refine M.alenI (pc := 28) 1 rfl dX0_partsEnough_28 ?_
          refine M.icmp_ge (pc := 29) (tgt := 42) dX0_partsEnough_29 (by decide) (by omega) (by omega) (fun c29 => ?_) (fun c29 => ?_)
          · exact absurd c29 (by omega)
          · refine M.aloadn (pc := 32) 0 rfl rfl dX0_partsEnough_32 ?_
            refine M.getf (pc := 33) fg_X0_19 0 rfl rfl dX0_partsEnough_33 ?_
            refine M.iload (pc := 36) (i := 4) rfl dX0_partsEnough_36 ?_
            refine M.iald (pc := 38) 1 rfl (by omega) (by omega) dX0_partsEnough_38 ?_
            refine M.goto (pc := 39) (tgt := 43) dX0_partsEnough_39 (by decide) ?_
            refine M.istore (pc := 43) (i := 5) (Nat.le_of_ble_eq_true rfl) rfl dX0_partsEnough_43 ?_
            dsimp only [List.set_cons_zero, List.set_cons_succ]
            have hwb : (0 ≤ wP (u * 13 + j) ∧ wP (u * 13 + j) < 8192) ∧ (wP (u * 13 + j) = 0 → j = J) := by
              rcases (by omega : j < J ∨ j = J) with w | w
              · obtain ⟨h1, x, h2, h3⟩ := hj j hjj.1 w
                have h4 : 0 ≤ PT H (U u) (cm (prB n) 13) x ∧ PT H (U u) (cm (prB n) 13) x < 8192 := cm_13b _
                exact ⟨by rw [h3]; exact h4, fun z => absurd z h1⟩
              · have h5 := hz (by omega)
                rw [w, h5]
                exact ⟨by omega, fun _ => rfl⟩
            refine M.iload (pc := 45) (i := 5) rfl dX0_partsEnough_45 ?_
            refine M.if_ne (pc := 47) (tgt := 52) dX0_partsEnough_47 (by decide) (by omega) (fun c47 => ?_) (fun c47 => ?_)
            · have hjJ : j < J := by
                rcases (by omega : j < J ∨ j = J) with w | w
                · exact w
                · exact absurd (by rw [w]; exact hz (by omega)) c47
              have hll := land_b (a := S) (b := wP (u * 13 + j)) hS.1 hwb.1.1
              refine M.iloadn (pc := 52) 2 rfl rfl dX0_partsEnough_52 ?_
              refine M.iload (pc := 53) (i := 5) rfl dX0_partsEnough_53 ?_
              refine M.iand (pc := 55) (land_ok hS.1 hwb.1.1) dX0_partsEnough_55 ?_
              have L74 : ∀ {N3 : Int → Int}, (¬ OKP vt H (U u) S q.toNat) → (KN n vt H N3) → V 0 0 74 [(t, eO 0 [.ref aL, .ref aU, .ref aP, .ref aK, .ref aN, .ref aH, .int (iI cu), .int (iI cp), .int (iI (pI (cb = true)))]), (aP, eI G 1664 wP), (aN, eI G 8192 N3)] [some (.ref t), none, none, none, none, none, none] [] := by
                intro N3 hno hN3
                refine M.iconst (pc := 74) dX0_partsEnough_74 ?_
                exact EI (false, N3) _ _ _ _ dX0_partsEnough_75 (Or.inr ⟨rfl, by first | exact Or.inl rfl | exact Or.inr rfl | exact pI_01 _⟩) (rfl) (rfl) (⟨⟨fun z => absurd (show false = true from z) (by decide), fun z => absurd z hno⟩, hN3⟩)
              refine M.istore (pc := 56) (i := 6) (Nat.le_of_ble_eq_true rfl) rfl dX0_partsEnough_56 ?_
              dsimp only [List.set_cons_zero, List.set_cons_succ]
              refine M.iload (pc := 58) (i := 6) rfl dX0_partsEnough_58 ?_
              refine M.iloadn (pc := 60) 2 rfl rfl dX0_partsEnough_60 ?_
              refine M.icmp_eq (pc := 61) (tgt := 74) dX0_partsEnough_61 (by decide) (by omega) (by omega) (fun c61 => ?_) (fun c61 => ?_)
              · refine M.forget 1 ?_
                dsimp only [List.set_cons_zero, List.set_cons_succ]
                refine M.forget 2 ?_
                dsimp only [List.set_cons_zero, List.set_cons_succ]
                refine M.forget 3 ?_
                dsimp only [List.set_cons_zero, List.set_cons_succ]
                refine M.forget 4 ?_
                dsimp only [List.set_cons_zero, List.set_cons_succ]
                refine M.forget 5 ?_
                dsimp only [List.set_cons_zero, List.set_cons_succ]
                refine M.forget 6 ?_
                dsimp only [List.set_cons_zero, List.set_cons_succ]
                exact L74  (by exact OKP.no hS hM.1 (hj j hjj.1 hjJ).2 (Or.inl c61)) (by exact hN2)
              · refine M.aloadn (pc := 64) 0 rfl rfl dX0_partsEnough_64 ?_
                refine M.iload (pc := 65) (i := 6) rfl dX0_partsEnough_65 ?_
                refine M.iloadn (pc := 67) 3 rfl rfl dX0_partsEnough_67 ?_
                refine M.mS (pc := 68) (c_X0_isEnough_12 (n := n) (U := U) (H := H) (vt := vt) (by first | assumption | omega) (by exact hE) (by omega) (by exact hM.sub (fun d hd => (me_land hd).1)) (by exact hq) (by exact hN2)) ms_X0_114 [0, 1, 2] rfl rfl rfl rfl (Nat.le_of_ble_eq_true rfl) rfl ⟨(Nat.le_of_ble_eq_true rfl), (Nat.le_of_ble_eq_true rfl)⟩ ⟨(Nat.le_of_ble_eq_true rfl), (Nat.le_of_ble_eq_true rfl)⟩ rfl (fun _ => rfl) dX0_partsEnough_68 (fun u68 hu68 => ?_)
                obtain ⟨r68, N68⟩ := u68
                dsimp only [putL, List.set_cons_zero, List.set_cons_succ, Option.toList, List.cons_append, List.nil_append] at hu68 ⊢
                refine M.if_neP (pc := 71) (tgt := 76) dX0_partsEnough_71 (by decide) (fun c71 => ?_) (fun c71 => ?_)
                · refine M.iinc (pc := 76) (i := 4) rfl rfl dX0_partsEnough_76 ?_
                  dsimp only [List.set_cons_zero, List.set_cons_succ]
                  refine M.goto (pc := 79) (tgt := 6) dX0_partsEnough_79 (by decide) ?_
                  refine M.forget 5 ?_
                  dsimp only [List.set_cons_zero, List.set_cons_succ]
                  refine M.forget 6 ?_
                  dsimp only [List.set_cons_zero, List.set_cons_succ]
                  rw [show u * 13 + j + 1 = u * 13 + (j + 1) by omega]
                  exact ih6  (by first | assumption | omega) (by intro i h0 h1; rcases (by omega : i < j ∨ i = j) with w | w; exact hok i h0 w; rw [w]; exact ⟨c61, hu68.1.mp c71⟩) (by exact hu68.2) (by omega)
                · refine M.forget 1 ?_
                  dsimp only [List.set_cons_zero, List.set_cons_succ]
                  refine M.forget 2 ?_
                  dsimp only [List.set_cons_zero, List.set_cons_succ]
                  refine M.forget 3 ?_
                  dsimp only [List.set_cons_zero, List.set_cons_succ]
                  refine M.forget 4 ?_
                  dsimp only [List.set_cons_zero, List.set_cons_succ]
                  refine M.forget 5 ?_
                  dsimp only [List.set_cons_zero, List.set_cons_succ]
                  refine M.forget 6 ?_
                  dsimp only [List.set_cons_zero, List.set_cons_succ]
                  exact L74  (by exact OKP.no hS hM.1 (hj j hjj.1 hjJ).2 (Or.inr (fun z => c71 (hu68.1.mpr z)))) (by exact hu68.2)
            · refine M.iconst (pc := 50) dX0_partsEnough_50 ?_
              exact EI (true, N2) _ _ _ _ dX0_partsEnough_51 (Or.inr ⟨rfl, by first | exact Or.inl rfl | exact Or.inr rfl | exact pI_01 _⟩) (rfl) (rfl) (⟨⟨fun _ => OKP.of hS hM.1 hx (by rw [← hwb.2 c47]; exact hok), fun _ => rfl⟩, hN2⟩)
  rw [show u * 13 = u * 13 + 0 by omega]
  exact L6 _ (j := 0) (by first | assumption | omega) (by intro i _ h; omega) (by first | assumption | omega) (Nat.lt_succ_self _)
set_option maxHeartbeats 4000000 in
set_option maxRecDepth 100000 in
theorem c_X0_isEnough_13 {l : Launch} {G : GT} {t aL aU aP aK aN aH : Nat} {cu cp : Int} {cb : Bool} {wP : Int → Int} {wN : Int → Int} {U : Int → Int} {H : Int → Int → Int} {n : Int} {vt : Int → Prop} {S q : Int} (hn : 0 ≤ n ∧ n ≤ 6) (hE : TBE n vt H cu U wP) (hS : 0 ≤ S ∧ S < 8192) (hM : MGD n vt H S) (hq : 0 ≤ q ∧ q ≤ 13) (hN : KN n vt H wN) : Con l G yX0_isEnough cX0_isEnough 7 (some .boolean) { frames := 26, cells := 0, slots := 0, locals := 676 } [.ref t, .int (iI S), .int (iI q)] [(t, eO 0 [.ref aL, .ref aU, .ref aP, .ref aK, .ref aN, .ref aH, .int (iI cu), .int (iI cp), .int (iI (pI (cb = true)))]), (aP, eI G 1664 wP), (aN, eI G 8192 wN)] (S := Bool × (Int → Int)) (fun u => some (.int (iI (pI (u.1 = true))))) (fun u => [(t, eO 0 [.ref aL, .ref aU, .ref aP, .ref aK, .ref aN, .ref aH, .int (iI cu), .int (iI cp), .int (iI (pI (cb = true)))]), (aP, eI G 1664 wP), (aN, eI G 8192 u.2)]) (fun u => (u.1 = true ↔ NL vt H q.toNat S) ∧ KN n vt H u.2) := by
  refine Con.mk (by decide +kernel) [some (.ref t), some (.int (iI S)), some (.int (iI q)), none, none, none, none] rfl (Nat.le_of_ble_eq_true rfl) rfl ?_
  intro V M EI EL EV EA
  obtain ⟨h1a, h1b, h1c, h1d⟩ := one_ok hS
  have hkn := hN S hS hM
  have hkb := hkn.1
  have hEc := hE.1
  have hy0 : sub1 S = 0 → NL0 vt H S := fun z c d hc hd => by rw [h1c z c d hc hd]; exact fun _ _ => rfl
  have hn0 : sub1 S ≠ 0 → ¬ NL0 vt H S := fun z w => by
    obtain ⟨c, d, hc, hd, hcd⟩ := h1d z
    exact hcd (hM.2 c d hc hd (w c d hc hd))
  refine M.iloadn (pc := 0) 1 rfl rfl dX0_isEnough_0 ?_
  refine M.iloadn (pc := 1) 1 rfl rfl dX0_isEnough_1 ?_
  refine M.iconst (pc := 2) dX0_isEnough_2 ?_
  refine M.isub (pc := 3) dX0_isEnough_3 ?_
  refine M.iand (pc := 4) (h1a) dX0_isEnough_4 ?_
  refine M.if_ne (pc := 5) (tgt := 10) dX0_isEnough_5 (by decide) (by omega) (fun c5 => ?_) (fun c5 => ?_)
  · refine M.iloadn (pc := 10) 2 rfl rfl dX0_isEnough_10 ?_
    refine M.if_le (pc := 11) (tgt := 27) dX0_isEnough_11 (by decide) (by omega) (fun c11 => ?_) (fun c11 => ?_)
    · refine M.iconst (pc := 27) dX0_isEnough_27 ?_
      exact EI (false, wN) _ _ _ _ dX0_isEnough_28 (Or.inr ⟨rfl, by first | exact Or.inl rfl | exact Or.inr rfl | exact pI_01 _⟩) (rfl) (rfl) (⟨⟨fun z => absurd (show false = true from z) (by decide), fun z => absurd (show NL vt H 0 S by rw [show q.toNat = 0 by omega] at z; exact z) (hn0 c5)⟩, hN⟩)
    · refine M.iloadn (pc := 14) 1 rfl rfl dX0_isEnough_14 ?_
      refine M.if_lt (pc := 15) (tgt := 27) dX0_isEnough_15 (by decide) (by omega) (fun c15 => ?_) (fun c15 => ?_)
      · exact absurd c15 (by omega)
      · refine M.iloadn (pc := 18) 1 rfl rfl dX0_isEnough_18 ?_
        refine M.aloadn (pc := 19) 0 rfl rfl dX0_isEnough_19 ?_
        refine M.getf (pc := 20) fg_X0_25 0 rfl rfl dX0_isEnough_20 ?_
        refine M.alenI (pc := 23) 2 rfl dX0_isEnough_23 ?_
        refine M.icmp_lt (pc := 24) (tgt := 29) dX0_isEnough_24 (by decide) (by omega) (by omega) (fun c24 => ?_) (fun c24 => ?_)
        · refine M.aloadn (pc := 29) 0 rfl rfl dX0_isEnough_29 ?_
          refine M.getf (pc := 30) fg_X0_25 0 rfl rfl dX0_isEnough_30 ?_
          refine M.iloadn (pc := 33) 1 rfl rfl dX0_isEnough_33 ?_
          refine M.iald (pc := 34) 2 rfl (by omega) (by omega) dX0_isEnough_34 ?_
          refine M.bipush (pc := 35) (by decide +kernel) dX0_isEnough_35 ?_
          refine M.iand (pc := 37) (and15 (by omega)) dX0_isEnough_37 ?_
          refine M.istoren (pc := 38) 3 rfl (Nat.le_of_ble_eq_true rfl) rfl dX0_isEnough_38 ?_
          dsimp only [List.set_cons_zero, List.set_cons_succ]
          refine M.aloadn (pc := 39) 0 rfl rfl dX0_isEnough_39 ?_
          refine M.getf (pc := 40) fg_X0_25 0 rfl rfl dX0_isEnough_40 ?_
          refine M.iloadn (pc := 43) 1 rfl rfl dX0_isEnough_43 ?_
          refine M.iald (pc := 44) 2 rfl (by omega) (by omega) dX0_isEnough_44 ?_
          refine M.iconst (pc := 45) dX0_isEnough_45 ?_
          refine M.ishr (pc := 46) (shr4 (by omega) (by omega)) dX0_isEnough_46 ?_
          refine M.istore (pc := 47) (i := 4) (Nat.le_of_ble_eq_true rfl) rfl dX0_isEnough_47 ?_
          dsimp only [List.set_cons_zero, List.set_cons_succ]
          have L75 : ∀ {r : Bool}, (r = true ↔ NL vt H q.toNat S) → V 0 0 75 [(t, eO 0 [.ref aL, .ref aU, .ref aP, .ref aK, .ref aN, .ref aH, .int (iI cu), .int (iI cp), .int (iI (pI (cb = true)))]), (aP, eI G 1664 wP), (aN, eI G 8192 wN)] [some (.ref t), none, none, none, none, none, none] [.int (iI (pI (r = true)))] := by
            intro r hr
            exact EI (r, wN) _ _ _ _ dX0_isEnough_75 (Or.inr ⟨rfl, by first | exact Or.inl rfl | exact Or.inr rfl | exact pI_01 _⟩) (rfl) (rfl) (⟨hr, hN⟩)
          refine M.iloadn (pc := 49) 2 rfl rfl dX0_isEnough_49 ?_
          refine M.iloadn (pc := 50) 3 rfl rfl dX0_isEnough_50 ?_
          refine M.icmp_le (pc := 51) (tgt := 65) dX0_isEnough_51 (by decide) (by omega) (by omega) (fun c51 => ?_) (fun c51 => ?_)
          · refine M.iloadn (pc := 65) 2 rfl rfl dX0_isEnough_65 ?_
            refine M.iloadn (pc := 66) 3 rfl rfl dX0_isEnough_66 ?_
            refine M.icmp_le (pc := 67) (tgt := 74) dX0_isEnough_67 (by decide) (by omega) (by omega) (fun c67 => ?_) (fun c67 => ?_)
            · refine M.iconst (pc := 74) dX0_isEnough_74 ?_
              refine M.forget 1 ?_
              dsimp only [List.set_cons_zero, List.set_cons_succ]
              refine M.forget 2 ?_
              dsimp only [List.set_cons_zero, List.set_cons_succ]
              refine M.forget 3 ?_
              dsimp only [List.set_cons_zero, List.set_cons_succ]
              refine M.forget 4 ?_
              dsimp only [List.set_cons_zero, List.set_cons_succ]
              exact L75 (r := false) (by exact ⟨fun z => absurd z (by decide), fun z => absurd (NL.up (by omega) z) (hkn.2.1 (by omega))⟩)
            · refine M.iconst (pc := 70) dX0_isEnough_70 ?_
              refine M.goto (pc := 71) (tgt := 75) dX0_isEnough_71 (by decide) ?_
              refine M.forget 1 ?_
              dsimp only [List.set_cons_zero, List.set_cons_succ]
              refine M.forget 2 ?_
              dsimp only [List.set_cons_zero, List.set_cons_succ]
              refine M.forget 3 ?_
              dsimp only [List.set_cons_zero, List.set_cons_succ]
              refine M.forget 4 ?_
              dsimp only [List.set_cons_zero, List.set_cons_succ]
              exact L75 (r := true) (by exact ⟨fun _ => (by first | exact absurd c51 (by omega) | exact (hkn.2.2 c56).up (by omega)), fun _ => rfl⟩)
          · refine M.iload (pc := 54) (i := 4) rfl dX0_isEnough_54 ?_
            refine M.if_eq (pc := 56) (tgt := 76) dX0_isEnough_56 (by decide) (by omega) (fun c56 => ?_) (fun c56 => ?_)
            · refine M.iconst (pc := 76) dX0_isEnough_76 ?_
              refine M.istore (pc := 77) (i := 5) (Nat.le_of_ble_eq_true rfl) rfl dX0_isEnough_77 ?_
              dsimp only [List.set_cons_zero, List.set_cons_succ]
              refine M.iconst (pc := 79) dX0_isEnough_79 ?_
              refine M.istore (pc := 80) (i := 6) (Nat.le_of_ble_eq_true rfl) rfl dX0_isEnough_80 ?_
              dsimp only [List.set_cons_zero, List.set_cons_succ]
              have L82 : ∀ (fu : Nat) {f : Bool} {u : Int} {N2 : Int → Int}, (0 ≤ u ∧ u ≤ cu) → ((f = true → NL vt H q.toNat S) ∧ (f = false → ∀ v, 0 ≤ v → v < u → ¬ OKP vt H (U v) S (q - 1).toNat)) → (KN n vt H N2) → (cu - u).toNat < fu → V 0 0 82 [(t, eO 0 [.ref aL, .ref aU, .ref aP, .ref aK, .ref aN, .ref aH, .int (iI cu), .int (iI cp), .int (iI (pI (cb = true)))]), (aP, eI G 1664 wP), (aN, eI G 8192 N2)] [some (.ref t), some (.int (iI S)), some (.int (iI q)), some (.int (iI (wN S % 16))), some (.int (iI (wN S / 16))), some (.int (iI (pI (f = true)))), some (.int (iI u))] [] := by
                intro fu
                induction fu with
                | zero => intro f u N2 hu hf hN2 hm; exact absurd hm (Nat.not_lt_zero _)
                | succ fu ih82 =>
                  intro f u N2 hu hf hN2 hm82
                  refine M.iload (pc := 82) (i := 5) rfl dX0_isEnough_82 ?_
                  have L114 : (f = true ↔ NL vt H q.toNat S) → V 0 0 114 [(t, eO 0 [.ref aL, .ref aU, .ref aP, .ref aK, .ref aN, .ref aH, .int (iI cu), .int (iI cp), .int (iI (pI (cb = true)))]), (aP, eI G 1664 wP), (aN, eI G 8192 N2)] [some (.ref t), some (.int (iI S)), some (.int (iI q)), some (.int (iI (wN S % 16))), some (.int (iI (wN S / 16))), some (.int (iI (pI (f = true)))), some (.int (iI u))] [] := by
                    intro  hfin
                    refine M.aloadn (pc := 114) 0 rfl rfl dX0_isEnough_114 ?_
                    refine M.getf (pc := 115) fg_X0_25 0 rfl rfl dX0_isEnough_115 ?_
                    have L138 : ∀ {val : Int}, (KN n vt H (upZ N2 S val)) → V 0 0 138 [(t, eO 0 [.ref aL, .ref aU, .ref aP, .ref aK, .ref aN, .ref aH, .int (iI cu), .int (iI cp), .int (iI (pI (cb = true)))]), (aP, eI G 1664 wP), (aN, eI G 8192 N2)] [some (.ref t), some (.int (iI S)), some (.int (iI q)), some (.int (iI (wN S % 16))), some (.int (iI (wN S / 16))), some (.int (iI (pI (f = true)))), some (.int (iI u))] [.int (iI val), .int (iI S), .ref aN] := by
                      intro val hval
                      refine M.iast (pc := 138) 2 rfl (by omega) (by omega) dX0_isEnough_138 ?_
                      dsimp only [List.set_cons_zero, List.set_cons_succ]
                      refine M.iload (pc := 139) (i := 5) rfl dX0_isEnough_139 ?_
                      exact EI (f, upZ N2 S val) _ _ _ _ dX0_isEnough_141 (Or.inr ⟨rfl, by first | exact Or.inl rfl | exact Or.inr rfl | exact pI_01 _⟩) (rfl) (rfl) (⟨hfin, hval⟩)
                    refine M.iloadn (pc := 118) 1 rfl rfl dX0_isEnough_118 ?_
                    refine M.iload (pc := 119) (i := 5) rfl dX0_isEnough_119 ?_
                    refine M.if_eqP (pc := 121) (tgt := 132) dX0_isEnough_121 (by decide) (fun c121 => ?_) (fun c121 => ?_)
                    · refine M.iloadn (pc := 132) 2 rfl rfl dX0_isEnough_132 ?_
                      refine M.iload (pc := 133) (i := 4) rfl dX0_isEnough_133 ?_
                      refine M.iconst (pc := 135) dX0_isEnough_135 ?_
                      refine M.ishl (pc := 136) (sh4 (by omega)) dX0_isEnough_136 ?_
                      refine M.ior (pc := 137) (or4 (by omega) (by omega)) dX0_isEnough_137 ?_
                      have e1 : (q + wN S / 16 * 16) % 16 = q := by omega
                      have e2 : (q + wN S / 16 * 16) / 16 = wN S / 16 := by omega
                      exact L138  (by exact hN2.up (by rw [e1, e2]; omega) (by rw [e1]; exact fun _ z => c121 (hfin.mpr z)) (by rw [e2]; exact hkn.2.2))
                    · refine M.iloadn (pc := 124) 3 rfl rfl dX0_isEnough_124 ?_
                      refine M.iloadn (pc := 125) 2 rfl rfl dX0_isEnough_125 ?_
                      refine M.iconst (pc := 126) dX0_isEnough_126 ?_
                      refine M.ishl (pc := 127) (sh4 (by omega)) dX0_isEnough_127 ?_
                      refine M.ior (pc := 128) (or4 (by omega) (by omega)) dX0_isEnough_128 ?_
                      refine M.goto (pc := 129) (tgt := 138) dX0_isEnough_129 (by decide) ?_
                      have e1 : (wN S % 16 + q * 16) % 16 = wN S % 16 := by omega
                      have e2 : (wN S % 16 + q * 16) / 16 = q := by omega
                      exact L138  (by exact hN2.up (by rw [e1, e2]; omega) (by rw [e1]; exact hkn.2.1) (by rw [e2]; exact fun _ => hfin.mp c121))
                  refine M.if_neP (pc := 84) (tgt := 114) dX0_isEnough_84 (by decide) (fun c84 => ?_) (fun c84 => ?_)
                  · exact L114  (by exact ⟨fun _ => hf.1 c84, fun _ => c84⟩)
                  · refine M.iload (pc := 87) (i := 6) rfl dX0_isEnough_87 ?_
                    refine M.aloadn (pc := 89) 0 rfl rfl dX0_isEnough_89 ?_
                    refine M.getf (pc := 90) fg_X0_43 0 rfl rfl dX0_isEnough_90 ?_
                    refine M.icmp_ge (pc := 93) (tgt := 114) dX0_isEnough_93 (by decide) (by omega) (by omega) (fun c93 => ?_) (fun c93 => ?_)
                    · exact L114  (by exact ⟨fun z => absurd z c84, fun z => absurd (NL.okp (by omega) (hn0 c5) z) (fun ⟨s, h1, h2⟩ => (hE.cov hn hM.1 h1 h2).elim (fun v hv => hf.2 (Bool.eq_false_iff.mpr c84) v hv.1.1 (by omega) hv.2.2))⟩)
                    · refine M.aloadn (pc := 96) 0 rfl rfl dX0_isEnough_96 ?_
                      refine M.iload (pc := 97) (i := 6) rfl dX0_isEnough_97 ?_
                      refine M.iloadn (pc := 99) 1 rfl rfl dX0_isEnough_99 ?_
                      refine M.iloadn (pc := 100) 2 rfl rfl dX0_isEnough_100 ?_
                      refine M.iconst (pc := 101) dX0_isEnough_101 ?_
                      refine M.isub (pc := 102) dX0_isEnough_102 ?_
                      refine M.mS (pc := 103) (c_X0_partsEnough_12 (n := n) (U := U) (H := H) (vt := vt) (by first | assumption | omega) (by exact hE) (by exact hS) (by exact hM) (by omega) (by exact hN2) (by omega)) ms_X0_118 [0, 1, 2] rfl rfl rfl rfl (Nat.le_of_ble_eq_true rfl) rfl ⟨(Nat.le_of_ble_eq_true rfl), (Nat.le_of_ble_eq_true rfl)⟩ ⟨(Nat.le_of_ble_eq_true rfl), (Nat.le_of_ble_eq_true rfl)⟩ rfl (fun _ => rfl) dX0_isEnough_103 (fun u103 hu103 => ?_)
                      obtain ⟨r103, N103⟩ := u103
                      dsimp only [putL, List.set_cons_zero, List.set_cons_succ, Option.toList, List.cons_append, List.nil_append] at hu103 ⊢
                      refine M.istore (pc := 106) (i := 5) (Nat.le_of_ble_eq_true rfl) rfl dX0_isEnough_106 ?_
                      dsimp only [List.set_cons_zero, List.set_cons_succ]
                      refine M.iinc (pc := 108) (i := 6) rfl rfl dX0_isEnough_108 ?_
                      dsimp only [List.set_cons_zero, List.set_cons_succ]
                      refine M.goto (pc := 111) (tgt := 82) dX0_isEnough_111 (by decide) ?_
                      exact ih82  (by first | assumption | omega) (by exact ⟨fun z => OKP.nl (by omega) (hE.2.1 u hu.1 (by omega)).1 (hu103.1.mp z), fun z v h0 h1 => (by omega : v < u ∨ v = u).elim (fun w => hf.2 (Bool.eq_false_iff.mpr c84) v h0 w) (fun w y => absurd (hu103.1.mpr (by rw [← w]; exact y)) (by show ¬ r103 = true; rw [show r103 = false from z]; decide))⟩) (by exact hu103.2) (by omega)
              exact L82 _ (f := false) (by first | assumption | omega) (by exact ⟨fun z => absurd z (by decide), fun _ v _ h => by omega⟩) (by first | assumption | omega) (Nat.lt_succ_self _)
            · refine M.iloadn (pc := 59) 2 rfl rfl dX0_isEnough_59 ?_
              refine M.iload (pc := 60) (i := 4) rfl dX0_isEnough_60 ?_
              refine M.icmp_lt (pc := 62) (tgt := 76) dX0_isEnough_62 (by decide) (by omega) (by omega) (fun c62 => ?_) (fun c62 => ?_)
              · refine M.iconst (pc := 76) dX0_isEnough_76 ?_
                refine M.istore (pc := 77) (i := 5) (Nat.le_of_ble_eq_true rfl) rfl dX0_isEnough_77 ?_
                dsimp only [List.set_cons_zero, List.set_cons_succ]
                refine M.iconst (pc := 79) dX0_isEnough_79 ?_
                refine M.istore (pc := 80) (i := 6) (Nat.le_of_ble_eq_true rfl) rfl dX0_isEnough_80 ?_
                dsimp only [List.set_cons_zero, List.set_cons_succ]
                have L82 : ∀ (fu : Nat) {f : Bool} {u : Int} {N2 : Int → Int}, (0 ≤ u ∧ u ≤ cu) → ((f = true → NL vt H q.toNat S) ∧ (f = false → ∀ v, 0 ≤ v → v < u → ¬ OKP vt H (U v) S (q - 1).toNat)) → (KN n vt H N2) → (cu - u).toNat < fu → V 0 0 82 [(t, eO 0 [.ref aL, .ref aU, .ref aP, .ref aK, .ref aN, .ref aH, .int (iI cu), .int (iI cp), .int (iI (pI (cb = true)))]), (aP, eI G 1664 wP), (aN, eI G 8192 N2)] [some (.ref t), some (.int (iI S)), some (.int (iI q)), some (.int (iI (wN S % 16))), some (.int (iI (wN S / 16))), some (.int (iI (pI (f = true)))), some (.int (iI u))] [] := by
                  intro fu
                  induction fu with
                  | zero => intro f u N2 hu hf hN2 hm; exact absurd hm (Nat.not_lt_zero _)
                  | succ fu ih82 =>
                    intro f u N2 hu hf hN2 hm82
                    refine M.iload (pc := 82) (i := 5) rfl dX0_isEnough_82 ?_
                    have L114 : (f = true ↔ NL vt H q.toNat S) → V 0 0 114 [(t, eO 0 [.ref aL, .ref aU, .ref aP, .ref aK, .ref aN, .ref aH, .int (iI cu), .int (iI cp), .int (iI (pI (cb = true)))]), (aP, eI G 1664 wP), (aN, eI G 8192 N2)] [some (.ref t), some (.int (iI S)), some (.int (iI q)), some (.int (iI (wN S % 16))), some (.int (iI (wN S / 16))), some (.int (iI (pI (f = true)))), some (.int (iI u))] [] := by
                      intro  hfin
                      refine M.aloadn (pc := 114) 0 rfl rfl dX0_isEnough_114 ?_
                      refine M.getf (pc := 115) fg_X0_25 0 rfl rfl dX0_isEnough_115 ?_
                      have L138 : ∀ {val : Int}, (KN n vt H (upZ N2 S val)) → V 0 0 138 [(t, eO 0 [.ref aL, .ref aU, .ref aP, .ref aK, .ref aN, .ref aH, .int (iI cu), .int (iI cp), .int (iI (pI (cb = true)))]), (aP, eI G 1664 wP), (aN, eI G 8192 N2)] [some (.ref t), some (.int (iI S)), some (.int (iI q)), some (.int (iI (wN S % 16))), some (.int (iI (wN S / 16))), some (.int (iI (pI (f = true)))), some (.int (iI u))] [.int (iI val), .int (iI S), .ref aN] := by
                        intro val hval
                        refine M.iast (pc := 138) 2 rfl (by omega) (by omega) dX0_isEnough_138 ?_
                        dsimp only [List.set_cons_zero, List.set_cons_succ]
                        refine M.iload (pc := 139) (i := 5) rfl dX0_isEnough_139 ?_
                        exact EI (f, upZ N2 S val) _ _ _ _ dX0_isEnough_141 (Or.inr ⟨rfl, by first | exact Or.inl rfl | exact Or.inr rfl | exact pI_01 _⟩) (rfl) (rfl) (⟨hfin, hval⟩)
                      refine M.iloadn (pc := 118) 1 rfl rfl dX0_isEnough_118 ?_
                      refine M.iload (pc := 119) (i := 5) rfl dX0_isEnough_119 ?_
                      refine M.if_eqP (pc := 121) (tgt := 132) dX0_isEnough_121 (by decide) (fun c121 => ?_) (fun c121 => ?_)
                      · refine M.iloadn (pc := 132) 2 rfl rfl dX0_isEnough_132 ?_
                        refine M.iload (pc := 133) (i := 4) rfl dX0_isEnough_133 ?_
                        refine M.iconst (pc := 135) dX0_isEnough_135 ?_
                        refine M.ishl (pc := 136) (sh4 (by omega)) dX0_isEnough_136 ?_
                        refine M.ior (pc := 137) (or4 (by omega) (by omega)) dX0_isEnough_137 ?_
                        have e1 : (q + wN S / 16 * 16) % 16 = q := by omega
                        have e2 : (q + wN S / 16 * 16) / 16 = wN S / 16 := by omega
                        exact L138  (by exact hN2.up (by rw [e1, e2]; omega) (by rw [e1]; exact fun _ z => c121 (hfin.mpr z)) (by rw [e2]; exact hkn.2.2))
                      · refine M.iloadn (pc := 124) 3 rfl rfl dX0_isEnough_124 ?_
                        refine M.iloadn (pc := 125) 2 rfl rfl dX0_isEnough_125 ?_
                        refine M.iconst (pc := 126) dX0_isEnough_126 ?_
                        refine M.ishl (pc := 127) (sh4 (by omega)) dX0_isEnough_127 ?_
                        refine M.ior (pc := 128) (or4 (by omega) (by omega)) dX0_isEnough_128 ?_
                        refine M.goto (pc := 129) (tgt := 138) dX0_isEnough_129 (by decide) ?_
                        have e1 : (wN S % 16 + q * 16) % 16 = wN S % 16 := by omega
                        have e2 : (wN S % 16 + q * 16) / 16 = q := by omega
                        exact L138  (by exact hN2.up (by rw [e1, e2]; omega) (by rw [e1]; exact hkn.2.1) (by rw [e2]; exact fun _ => hfin.mp c121))
                    refine M.if_neP (pc := 84) (tgt := 114) dX0_isEnough_84 (by decide) (fun c84 => ?_) (fun c84 => ?_)
                    · exact L114  (by exact ⟨fun _ => hf.1 c84, fun _ => c84⟩)
                    · refine M.iload (pc := 87) (i := 6) rfl dX0_isEnough_87 ?_
                      refine M.aloadn (pc := 89) 0 rfl rfl dX0_isEnough_89 ?_
                      refine M.getf (pc := 90) fg_X0_43 0 rfl rfl dX0_isEnough_90 ?_
                      refine M.icmp_ge (pc := 93) (tgt := 114) dX0_isEnough_93 (by decide) (by omega) (by omega) (fun c93 => ?_) (fun c93 => ?_)
                      · exact L114  (by exact ⟨fun z => absurd z c84, fun z => absurd (NL.okp (by omega) (hn0 c5) z) (fun ⟨s, h1, h2⟩ => (hE.cov hn hM.1 h1 h2).elim (fun v hv => hf.2 (Bool.eq_false_iff.mpr c84) v hv.1.1 (by omega) hv.2.2))⟩)
                      · refine M.aloadn (pc := 96) 0 rfl rfl dX0_isEnough_96 ?_
                        refine M.iload (pc := 97) (i := 6) rfl dX0_isEnough_97 ?_
                        refine M.iloadn (pc := 99) 1 rfl rfl dX0_isEnough_99 ?_
                        refine M.iloadn (pc := 100) 2 rfl rfl dX0_isEnough_100 ?_
                        refine M.iconst (pc := 101) dX0_isEnough_101 ?_
                        refine M.isub (pc := 102) dX0_isEnough_102 ?_
                        refine M.mS (pc := 103) (c_X0_partsEnough_12 (n := n) (U := U) (H := H) (vt := vt) (by first | assumption | omega) (by exact hE) (by exact hS) (by exact hM) (by omega) (by exact hN2) (by omega)) ms_X0_118 [0, 1, 2] rfl rfl rfl rfl (Nat.le_of_ble_eq_true rfl) rfl ⟨(Nat.le_of_ble_eq_true rfl), (Nat.le_of_ble_eq_true rfl)⟩ ⟨(Nat.le_of_ble_eq_true rfl), (Nat.le_of_ble_eq_true rfl)⟩ rfl (fun _ => rfl) dX0_isEnough_103 (fun u103 hu103 => ?_)
                        obtain ⟨r103, N103⟩ := u103
                        dsimp only [putL, List.set_cons_zero, List.set_cons_succ, Option.toList, List.cons_append, List.nil_append] at hu103 ⊢
                        refine M.istore (pc := 106) (i := 5) (Nat.le_of_ble_eq_true rfl) rfl dX0_isEnough_106 ?_
                        dsimp only [List.set_cons_zero, List.set_cons_succ]
                        refine M.iinc (pc := 108) (i := 6) rfl rfl dX0_isEnough_108 ?_
                        dsimp only [List.set_cons_zero, List.set_cons_succ]
                        refine M.goto (pc := 111) (tgt := 82) dX0_isEnough_111 (by decide) ?_
                        exact ih82  (by first | assumption | omega) (by exact ⟨fun z => OKP.nl (by omega) (hE.2.1 u hu.1 (by omega)).1 (hu103.1.mp z), fun z v h0 h1 => (by omega : v < u ∨ v = u).elim (fun w => hf.2 (Bool.eq_false_iff.mpr c84) v h0 w) (fun w y => absurd (hu103.1.mpr (by rw [← w]; exact y)) (by show ¬ r103 = true; rw [show r103 = false from z]; decide))⟩) (by exact hu103.2) (by omega)
                exact L82 _ (f := false) (by first | assumption | omega) (by exact ⟨fun z => absurd z (by decide), fun _ v _ h => by omega⟩) (by first | assumption | omega) (Nat.lt_succ_self _)
              · refine M.iloadn (pc := 65) 2 rfl rfl dX0_isEnough_65 ?_
                refine M.iloadn (pc := 66) 3 rfl rfl dX0_isEnough_66 ?_
                refine M.icmp_le (pc := 67) (tgt := 74) dX0_isEnough_67 (by decide) (by omega) (by omega) (fun c67 => ?_) (fun c67 => ?_)
                · refine M.iconst (pc := 74) dX0_isEnough_74 ?_
                  refine M.forget 1 ?_
                  dsimp only [List.set_cons_zero, List.set_cons_succ]
                  refine M.forget 2 ?_
                  dsimp only [List.set_cons_zero, List.set_cons_succ]
                  refine M.forget 3 ?_
                  dsimp only [List.set_cons_zero, List.set_cons_succ]
                  refine M.forget 4 ?_
                  dsimp only [List.set_cons_zero, List.set_cons_succ]
                  exact L75 (r := false) (by exact ⟨fun z => absurd z (by decide), fun z => absurd (NL.up (by omega) z) (hkn.2.1 (by omega))⟩)
                · refine M.iconst (pc := 70) dX0_isEnough_70 ?_
                  refine M.goto (pc := 71) (tgt := 75) dX0_isEnough_71 (by decide) ?_
                  refine M.forget 1 ?_
                  dsimp only [List.set_cons_zero, List.set_cons_succ]
                  refine M.forget 2 ?_
                  dsimp only [List.set_cons_zero, List.set_cons_succ]
                  refine M.forget 3 ?_
                  dsimp only [List.set_cons_zero, List.set_cons_succ]
                  refine M.forget 4 ?_
                  dsimp only [List.set_cons_zero, List.set_cons_succ]
                  exact L75 (r := true) (by exact ⟨fun _ => (by first | exact absurd c51 (by omega) | exact (hkn.2.2 c56).up (by omega)), fun _ => rfl⟩)
        · exact absurd c24 (by omega)
  · refine M.iconst (pc := 8) dX0_isEnough_8 ?_
    exact EI (true, wN) _ _ _ _ dX0_isEnough_9 (Or.inr ⟨rfl, by first | exact Or.inl rfl | exact Or.inr rfl | exact pI_01 _⟩) (rfl) (rfl) (⟨⟨fun _ => NL.up (Nat.zero_le _) (show NL vt H 0 S from hy0 c5), fun _ => rfl⟩, hN⟩)
set_option maxHeartbeats 4000000 in
set_option maxRecDepth 100000 in
theorem c_X0_partsEnough_13 {l : Launch} {G : GT} {t aL aU aP aK aN aH : Nat} {cu cp : Int} {cb : Bool} {wP : Int → Int} {wN : Int → Int} {U : Int → Int} {H : Int → Int → Int} {n : Int} {vt : Int → Prop} {u S q : Int} (hn : 0 ≤ n ∧ n ≤ 6) (hE : TBE n vt H cu U wP) (hS : 0 ≤ S ∧ S < 8192) (hM : MGD n vt H S) (hq : 0 ≤ q ∧ q ≤ 13) (hN : KN n vt H wN) (hu : 0 ≤ u ∧ u < cu) : Con l G yX0_partsEnough cX0_partsEnough 7 (some .boolean) { frames := 27, cells := 0, slots := 0, locals := 702 } [.ref t, .int (iI u), .int (iI S), .int (iI q)] [(t, eO 0 [.ref aL, .ref aU, .ref aP, .ref aK, .ref aN, .ref aH, .int (iI cu), .int (iI cp), .int (iI (pI (cb = true)))]), (aP, eI G 1664 wP), (aN, eI G 8192 wN)] (S := Bool × (Int → Int)) (fun u => some (.int (iI (pI (u.1 = true))))) (fun u => [(t, eO 0 [.ref aL, .ref aU, .ref aP, .ref aK, .ref aN, .ref aH, .int (iI cu), .int (iI cp), .int (iI (pI (cb = true)))]), (aP, eI G 1664 wP), (aN, eI G 8192 u.2)]) (fun x => (x.1 = true ↔ OKP vt H (U u) S q.toNat) ∧ KN n vt H x.2) := by
  refine Con.mk (by decide +kernel) [some (.ref t), some (.int (iI u)), some (.int (iI S)), some (.int (iI q)), none, none, none] rfl (Nat.le_of_ble_eq_true rfl) rfl ?_
  intro V M EI EL EV EA
  have hEc := hE.1
  obtain ⟨hvt, J, hJ, hj, hz, hx⟩ := hE.2.1 u hu.1 hu.2
  refine M.iloadn (pc := 0) 1 rfl rfl dX0_partsEnough_0 ?_
  refine M.bipush (pc := 1) (by decide +kernel) dX0_partsEnough_1 ?_
  refine M.imul (pc := 3) dX0_partsEnough_3 ?_
  refine M.istore (pc := 4) (i := 4) (Nat.le_of_ble_eq_true rfl) rfl dX0_partsEnough_4 ?_
  dsimp only [List.set_cons_zero, List.set_cons_succ]
  have L6 : ∀ (fu : Nat) {j : Int} {N2 : Int → Int}, (0 ≤ j ∧ j ≤ J) → (∀ i, 0 ≤ i → i < j → land S (wP (u * 13 + i)) ≠ S ∧ NL vt H q.toNat (land S (wP (u * 13 + i)))) → (KN n vt H N2) → (13 - j).toNat < fu → V 0 0 6 [(t, eO 0 [.ref aL, .ref aU, .ref aP, .ref aK, .ref aN, .ref aH, .int (iI cu), .int (iI cp), .int (iI (pI (cb = true)))]), (aP, eI G 1664 wP), (aN, eI G 8192 N2)] [some (.ref t), some (.int (iI u)), some (.int (iI S)), some (.int (iI q)), some (.int (iI (u * 13 + j))), none, none] [] := by
    intro fu
    induction fu with
    | zero => intro j N2 hjj hok hN2 hm; exact absurd hm (Nat.not_lt_zero _)
    | succ fu ih6 =>
      intro j N2 hjj hok hN2 hm6
      refine M.iload (pc := 6) (i := 4) rfl dX0_partsEnough_6 ?_
      refine M.iloadn (pc := 8) 1 rfl rfl dX0_partsEnough_8 ?_
      refine M.iconst (pc := 9) dX0_partsEnough_9 ?_
      refine M.iadd (pc := 10) dX0_partsEnough_10 ?_
      refine M.bipush (pc := 11) (by decide +kernel) dX0_partsEnough_11 ?_
      refine M.imul (pc := 13) dX0_partsEnough_13 ?_
      refine M.icmp_ge (pc := 14) (tgt := 82) dX0_partsEnough_14 (by decide) (by omega) (by omega) (fun c14 => ?_) (fun c14 => ?_)
      · refine M.iconst (pc := 82) dX0_partsEnough_82 ?_
        exact EI (true, N2) _ _ _ _ dX0_partsEnough_83 (Or.inr ⟨rfl, by first | exact Or.inl rfl | exact Or.inr rfl | exact pI_01 _⟩) (rfl) (rfl) (⟨⟨fun _ => OKP.of hS hM.1 hx (by rw [show J = j by omega]; exact hok), fun _ => rfl⟩, hN2⟩)
      · refine M.iload (pc := 17) (i := 4) rfl dX0_partsEnough_17 ?_
        refine M.if_lt (pc := 19) (tgt := 42) dX0_partsEnough_19 (by decide) (by omega) (fun c19 => ?_) (fun c19 => ?_)
        · exact absurd c19 (by omega)
        · refine M.iload (pc := 22) (i := 4) rfl dX0_partsEnough_22 ?_
          refine M.aloadn (pc := 24) 0 rfl rfl dX0_partsEnough_24 ?_
          refine M.getf (pc := 25) fg_X0_19 0 rfl rfl dX0_partsEnough_25 ?_
          refine M.alenI (pc := 28) 1 rfl dX0_partsEnough_28 ?_
          refine M.icmp_ge (pc := 29) (tgt := 42) dX0_partsEnough_29 (by decide) (by omega) (by omega) (fun c29 => ?_) (fun c29 => ?_)
          · exact absurd c29 (by omega)
          · refine M.aloadn (pc := 32) 0 rfl rfl dX0_partsEnough_32 ?_
            refine M.getf (pc := 33) fg_X0_19 0 rfl rfl dX0_partsEnough_33 ?_
            refine M.iload (pc := 36) (i := 4) rfl dX0_partsEnough_36 ?_
            refine M.iald (pc := 38) 1 rfl (by omega) (by omega) dX0_partsEnough_38 ?_
            refine M.goto (pc := 39) (tgt := 43) dX0_partsEnough_39 (by decide) ?_
            refine M.istore (pc := 43) (i := 5) (Nat.le_of_ble_eq_true rfl) rfl dX0_partsEnough_43 ?_
            dsimp only [List.set_cons_zero, List.set_cons_succ]
            have hwb : (0 ≤ wP (u * 13 + j) ∧ wP (u * 13 + j) < 8192) ∧ (wP (u * 13 + j) = 0 → j = J) := by
              rcases (by omega : j < J ∨ j = J) with w | w
              · obtain ⟨h1, x, h2, h3⟩ := hj j hjj.1 w
                have h4 : 0 ≤ PT H (U u) (cm (prB n) 13) x ∧ PT H (U u) (cm (prB n) 13) x < 8192 := cm_13b _
                exact ⟨by rw [h3]; exact h4, fun z => absurd z h1⟩
              · have h5 := hz (by omega)
                rw [w, h5]
                exact ⟨by omega, fun _ => rfl⟩
            refine M.iload (pc := 45) (i := 5) rfl dX0_partsEnough_45 ?_
            refine M.if_ne (pc := 47) (tgt := 52) dX0_partsEnough_47 (by decide) (by omega) (fun c47 => ?_) (fun c47 => ?_)
            · have hjJ : j < J := by
                rcases (by omega : j < J ∨ j = J) with w | w
                · exact w
                · exact absurd (by rw [w]; exact hz (by omega)) c47
              have hll := land_b (a := S) (b := wP (u * 13 + j)) hS.1 hwb.1.1
              refine M.iloadn (pc := 52) 2 rfl rfl dX0_partsEnough_52 ?_
              refine M.iload (pc := 53) (i := 5) rfl dX0_partsEnough_53 ?_
              refine M.iand (pc := 55) (land_ok hS.1 hwb.1.1) dX0_partsEnough_55 ?_
              have L74 : ∀ {N3 : Int → Int}, (¬ OKP vt H (U u) S q.toNat) → (KN n vt H N3) → V 0 0 74 [(t, eO 0 [.ref aL, .ref aU, .ref aP, .ref aK, .ref aN, .ref aH, .int (iI cu), .int (iI cp), .int (iI (pI (cb = true)))]), (aP, eI G 1664 wP), (aN, eI G 8192 N3)] [some (.ref t), none, none, none, none, none, none] [] := by
                intro N3 hno hN3
                refine M.iconst (pc := 74) dX0_partsEnough_74 ?_
                exact EI (false, N3) _ _ _ _ dX0_partsEnough_75 (Or.inr ⟨rfl, by first | exact Or.inl rfl | exact Or.inr rfl | exact pI_01 _⟩) (rfl) (rfl) (⟨⟨fun z => absurd (show false = true from z) (by decide), fun z => absurd z hno⟩, hN3⟩)
              refine M.istore (pc := 56) (i := 6) (Nat.le_of_ble_eq_true rfl) rfl dX0_partsEnough_56 ?_
              dsimp only [List.set_cons_zero, List.set_cons_succ]
              refine M.iload (pc := 58) (i := 6) rfl dX0_partsEnough_58 ?_
              refine M.iloadn (pc := 60) 2 rfl rfl dX0_partsEnough_60 ?_
              refine M.icmp_eq (pc := 61) (tgt := 74) dX0_partsEnough_61 (by decide) (by omega) (by omega) (fun c61 => ?_) (fun c61 => ?_)
              · refine M.forget 1 ?_
                dsimp only [List.set_cons_zero, List.set_cons_succ]
                refine M.forget 2 ?_
                dsimp only [List.set_cons_zero, List.set_cons_succ]
                refine M.forget 3 ?_
                dsimp only [List.set_cons_zero, List.set_cons_succ]
                refine M.forget 4 ?_
                dsimp only [List.set_cons_zero, List.set_cons_succ]
                refine M.forget 5 ?_
                dsimp only [List.set_cons_zero, List.set_cons_succ]
                refine M.forget 6 ?_
                dsimp only [List.set_cons_zero, List.set_cons_succ]
                exact L74  (by exact OKP.no hS hM.1 (hj j hjj.1 hjJ).2 (Or.inl c61)) (by exact hN2)
              · refine M.aloadn (pc := 64) 0 rfl rfl dX0_partsEnough_64 ?_
                refine M.iload (pc := 65) (i := 6) rfl dX0_partsEnough_65 ?_
                refine M.iloadn (pc := 67) 3 rfl rfl dX0_partsEnough_67 ?_
                refine M.mS (pc := 68) (c_X0_isEnough_13 (n := n) (U := U) (H := H) (vt := vt) (by first | assumption | omega) (by exact hE) (by omega) (by exact hM.sub (fun d hd => (me_land hd).1)) (by exact hq) (by exact hN2)) ms_X0_114 [0, 1, 2] rfl rfl rfl rfl (Nat.le_of_ble_eq_true rfl) rfl ⟨(Nat.le_of_ble_eq_true rfl), (Nat.le_of_ble_eq_true rfl)⟩ ⟨(Nat.le_of_ble_eq_true rfl), (Nat.le_of_ble_eq_true rfl)⟩ rfl (fun _ => rfl) dX0_partsEnough_68 (fun u68 hu68 => ?_)
                obtain ⟨r68, N68⟩ := u68
                dsimp only [putL, List.set_cons_zero, List.set_cons_succ, Option.toList, List.cons_append, List.nil_append] at hu68 ⊢
                refine M.if_neP (pc := 71) (tgt := 76) dX0_partsEnough_71 (by decide) (fun c71 => ?_) (fun c71 => ?_)
                · refine M.iinc (pc := 76) (i := 4) rfl rfl dX0_partsEnough_76 ?_
                  dsimp only [List.set_cons_zero, List.set_cons_succ]
                  refine M.goto (pc := 79) (tgt := 6) dX0_partsEnough_79 (by decide) ?_
                  refine M.forget 5 ?_
                  dsimp only [List.set_cons_zero, List.set_cons_succ]
                  refine M.forget 6 ?_
                  dsimp only [List.set_cons_zero, List.set_cons_succ]
                  rw [show u * 13 + j + 1 = u * 13 + (j + 1) by omega]
                  exact ih6  (by first | assumption | omega) (by intro i h0 h1; rcases (by omega : i < j ∨ i = j) with w | w; exact hok i h0 w; rw [w]; exact ⟨c61, hu68.1.mp c71⟩) (by exact hu68.2) (by omega)
                · refine M.forget 1 ?_
                  dsimp only [List.set_cons_zero, List.set_cons_succ]
                  refine M.forget 2 ?_
                  dsimp only [List.set_cons_zero, List.set_cons_succ]
                  refine M.forget 3 ?_
                  dsimp only [List.set_cons_zero, List.set_cons_succ]
                  refine M.forget 4 ?_
                  dsimp only [List.set_cons_zero, List.set_cons_succ]
                  refine M.forget 5 ?_
                  dsimp only [List.set_cons_zero, List.set_cons_succ]
                  refine M.forget 6 ?_
                  dsimp only [List.set_cons_zero, List.set_cons_succ]
                  exact L74  (by exact OKP.no hS hM.1 (hj j hjj.1 hjJ).2 (Or.inr (fun z => c71 (hu68.1.mpr z)))) (by exact hu68.2)
            · refine M.iconst (pc := 50) dX0_partsEnough_50 ?_
              exact EI (true, N2) _ _ _ _ dX0_partsEnough_51 (Or.inr ⟨rfl, by first | exact Or.inl rfl | exact Or.inr rfl | exact pI_01 _⟩) (rfl) (rfl) (⟨⟨fun _ => OKP.of hS hM.1 hx (by rw [← hwb.2 c47]; exact hok), fun _ => rfl⟩, hN2⟩)
  rw [show u * 13 = u * 13 + 0 by omega]
  exact L6 _ (j := 0) (by first | assumption | omega) (by intro i _ h; omega) (by first | assumption | omega) (Nat.lt_succ_self _)
