/-! the reference's needs -/
theorem andn_0 {a b : Int} (h : andn a b = 0) (m : Int) (ha : tb a m = true) : tb b m = true := by
  have h1 := tb_andn a b m
  rw [h, tb_0, ha] at h1
  simpa using h1.symm
theorem andn_z {a b : Int} (ha : 0 ≤ a ∧ a < 8192) (h : ∀ d, 0 ≤ d → d < 13 → tb a d = true → tb b d = true) : andn a b = 0 := by
  have hb := andn_b (b := b) ha.1
  refine mask_ext ⟨hb.1, by omega⟩ ⟨by omega, by omega⟩ (fun d h0 h1 => ?_)
  rw [tb_andn, tb_0]
  by_cases q : tb a d = true
  · rw [q, h d h0 h1 q]; rfl
  · simp [Bool.eq_false_iff.mpr q]
theorem cm_ext {p q : Int → Bool} : ∀ k : Nat, (∀ j : Nat, j < k → p (j : Int) = q (j : Int)) → cm p k = cm q k := by
  intro k
  induction k with
  | zero => intro _; rfl
  | succ k ih =>
    intro h
    show cm p k + _ = cm q k + _
    rw [ih (fun j hj => h j (by omega)), h k (by omega)]
theorem cmNone {p : Int → Bool} : ∀ k : Nat, (∀ j : Nat, j < k → p (j : Int) = false) → cm p k = 0 := by
  intro k
  induction k with
  | zero => intro _; rfl
  | succ k ih =>
    intro h
    show cm p k + _ = 0
    rw [ih (fun j hj => h j (by omega)), h k (by omega)]
    rfl
/-- a set of cases that there are -/
def SET (pr : Int → Bool) (S : Int) : Prop := (0 ≤ S ∧ S < 8192) ∧ ∀ d, me S d → pr d = true
theorem me_ex {S : Int} (h : 0 ≤ S ∧ S < 8192) (hn : S ≠ 0) : ∃ d, me S d := by
  refine Classical.byContradiction (fun z => hn (mask_ext h ⟨by omega, by omega⟩ (fun d h0 h1 => ?_)))
  rw [tb_0]
  exact Bool.eq_false_iff.mpr (fun w => z ⟨d, ⟨h0, h1⟩, w⟩)
theorem SET.pt {pr : Int → Bool} {H : Int → Int → Int} {t S c : Int} (h : SET pr S) : SET pr (PT H t S c) := ⟨cm_13b _, fun d hd => h.2 d (me_PT.mp hd).1⟩
theorem tix_inv {vb vn T : Int} (h0 : 0 ≤ T) (hvb : 0 ≤ vb ∧ vb ≤ 2) (hp : 1 ≤ p2 vn) (h1 : T < (if vb = 0 then 0 else tix vn (vb - 1) (p2 vn))) : ∃ b s, (0 ≤ b ∧ b < vb) ∧ (1 ≤ s ∧ s < p2 vn) ∧ T = tix vn b s := by
  rcases (by omega : vb = 0 ∨ vb = 1 ∨ vb = 2) with e | e | e
  · rw [if_pos e] at h1; omega
  · rw [if_neg (by omega), e] at h1
    simp [tix] at h1
    exact ⟨0, T + 1, by omega, by omega, by simp [tix]⟩
  · rw [if_neg (by omega), e] at h1
    simp [tix] at h1
    rcases (by omega : T < p2 vn - 1 ∨ p2 vn - 1 ≤ T) with q | q
    · exact ⟨0, T + 1, by omega, by omega, by simp [tix]⟩
    · exact ⟨1, T - (p2 vn - 1) + 1, by omega, by omega, by simp [tix]; omega⟩
theorem tix_in {vb vn b s : Int} (hvb : 0 ≤ vb ∧ vb ≤ 2) (hb : 0 ≤ b ∧ b < vb) (hs : 1 ≤ s ∧ s < p2 vn) : 0 ≤ tix vn b s ∧ tix vn b s < (if vb = 0 then 0 else tix vn (vb - 1) (p2 vn)) := by
  rw [if_neg (by omega)]
  unfold tix
  split <;> split <;> omega
theorem tix_lt {vn b s b2 s2 : Int} (hb : 0 ≤ b ∧ b < 2) (hb2 : 0 ≤ b2 ∧ b2 < 2) (hs : 1 ≤ s ∧ s < p2 vn) (hs2 : 1 ≤ s2 ∧ s2 < p2 vn) (h64 : p2 vn ≤ 64) : tix vn b s < tix vn b2 s2 ↔ b * 64 + s < b2 * 64 + s2 := by
  unfold tix
  split <;> split <;> omega
/-- what a try is worth, by the needs of its parts -/
def WB (H : Int → Int → Int) (gn : Int → Int) (S t w : Int) : Prop := (¬ SPL H t S → w = 1000) ∧ (SPL H t S → (0 ≤ w ∧ w ≤ 13) ∧ (∀ c, me S c → gn (PT H t S c) ≤ w) ∧ ∃ c, me S c ∧ w = gn (PT H t S c))
/-- the needs of all that is less than S -/
def NDS (vt : Int → Prop) (H : Int → Int → Int) (gn : Int → Int) (S : Int) : Prop := ∀ P, (0 ≤ P ∧ P < 8192) → (∀ d, me P d → me S d) → P ≠ S → ND vt H P (gn P)
theorem PT_ne {H : Int → Int → Int} {t S c : Int} (hS : 0 ≤ S ∧ S < 8192) : SPL H t S → PT H t S c ≠ S := by
  rintro ⟨a, b, ha, hb, hab⟩ e
  have h1 := (me_PT.mp (show me (PT H t S c) a by rw [e]; exact ha)).2
  have h2 := (me_PT.mp (show me (PT H t S c) b by rw [e]; exact hb)).2
  exact hab (by rw [h1, h2])
theorem WB.parts {vt : Int → Prop} {H : Int → Int → Int} {gn : Int → Int} {S t w : Int} (hS : 0 ≤ S ∧ S < 8192) (hN : NDS vt H gn S) (h : WB H gn S t w) (hs : SPL H t S) {k : Int} (hk : 0 ≤ k) : (∀ c, me S c → NL vt H k.toNat (PT H t S c)) ↔ w ≤ k := by
  obtain ⟨h1, h2, c, h3, h4⟩ := h.2 hs
  have hnd : ∀ c, ND vt H (PT H t S c) (gn (PT H t S c)) := fun c => hN _ (cm_13b _) (fun d hd => (me_PT.mp hd).1) (PT_ne hS hs)
  constructor
  · intro q
    rw [h4]
    exact ((hnd c).le hk).mp (q c h3)
  · intro q d hd
    exact ((hnd d).le hk).mpr (by have := h2 d hd; omega)
set_option maxHeartbeats 4000000 in
set_option maxRecDepth 100000 in
theorem c_X8_isKnown {l : Launch} {G : GT} {m aBath aBather aMorn aText aRB aRN aLow aHigh aNeeds aLikes aHts aBook aImg aKept : Nat} {vb vn vo vm vs vt vf va vw vu vna vrb vrn vro vtr vbk vsd : Int} {vch : Bool} {gk : Int → Int} {gb gt : Int → Int} {S : Int} (hS : SET (prB vn) S) (hL : LQ (VTt vb vn) (hC gb gt vo vn) (prB vn) gk 13) : Con l G yX8_isKnown cX8_isKnown 4 (some .boolean) { frames := 1, cells := 0, slots := 0, locals := 21 } [.ref m, .int (iI S)] [(m, eO 8 [.int (iI vb), .ref aBath, .int (iI vn), .ref aBather, .int (iI vo), .int (iI vm), .ref aMorn, .int (iI vs), .ref aText, .int (iI vt), .int (iI vf), .int (iI va), .long (lI vsd), .int (iI vw), .int (iI vu), .int (iI vna), .int (iI vrb), .ref aRB, .int (iI vrn), .ref aRN, .int (iI vro), .ref aLow, .ref aHigh, .int (iI (pI (vch = true))), .ref aNeeds, .ref aLikes, .ref aHts, .int (iI vtr), .int (iI vbk), .ref aBook, .ref aImg, .ref aKept]), (aLikes, eI G 13 gk)] (S := Bool) (fun u => some (.int (iI (pI (u = true))))) (fun _ => [(m, eO 8 [.int (iI vb), .ref aBath, .int (iI vn), .ref aBather, .int (iI vo), .int (iI vm), .ref aMorn, .int (iI vs), .ref aText, .int (iI vt), .int (iI vf), .int (iI va), .long (lI vsd), .int (iI vw), .int (iI vu), .int (iI vna), .int (iI vrb), .ref aRB, .int (iI vrn), .ref aRN, .int (iI vro), .ref aLow, .ref aHigh, .int (iI (pI (vch = true))), .ref aNeeds, .ref aLikes, .ref aHts, .int (iI vtr), .int (iI vbk), .ref aBook, .ref aImg, .ref aKept]), (aLikes, eI G 13 gk)]) (fun u => u = true ↔ NL0 (VTt vb vn) (hC gb gt vo vn) S) := by
  refine Con.mk (by decide +kernel) [some (.ref m), some (.int (iI S)), none, none] rfl (Nat.le_of_ble_eq_true rfl) rfl ?_
  intro V M EI EL EV EA
  refine M.iconst (pc := 0) dX8_isKnown_0 ?_
  refine M.istoren (pc := 1) 2 rfl (Nat.le_of_ble_eq_true rfl) rfl dX8_isKnown_1 ?_
  dsimp only [List.set_cons_zero, List.set_cons_succ]
  refine M.iconst (pc := 2) dX8_isKnown_2 ?_
  refine M.istoren (pc := 3) 3 rfl (Nat.le_of_ble_eq_true rfl) rfl dX8_isKnown_3 ?_
  dsimp only [List.set_cons_zero, List.set_cons_succ]
  have L4 : ∀ (fu : Nat) {k : Int} {kn : Bool}, (0 ≤ k ∧ k ≤ 13) → (kn = true ↔ ∀ c, 0 ≤ c → c < k → tb S c = true → ∀ d, me S d → AL (VTt vb vn) (hC gb gt vo vn) c d) → (13 - k).toNat < fu → V 0 0 4 [(m, eO 8 [.int (iI vb), .ref aBath, .int (iI vn), .ref aBather, .int (iI vo), .int (iI vm), .ref aMorn, .int (iI vs), .ref aText, .int (iI vt), .int (iI vf), .int (iI va), .long (lI vsd), .int (iI vw), .int (iI vu), .int (iI vna), .int (iI vrb), .ref aRB, .int (iI vrn), .ref aRN, .int (iI vro), .ref aLow, .ref aHigh, .int (iI (pI (vch = true))), .ref aNeeds, .ref aLikes, .ref aHts, .int (iI vtr), .int (iI vbk), .ref aBook, .ref aImg, .ref aKept]), (aLikes, eI G 13 gk)] [some (.ref m), some (.int (iI S)), some (.int (iI (pI (kn = true)))), some (.int (iI k))] [] := by
    intro fu
    induction fu with
    | zero => intro k kn hk hkn hm; exact absurd hm (Nat.not_lt_zero _)
    | succ fu ih4 =>
      intro k kn hk hkn hm4
      refine M.iloadn (pc := 4) 3 rfl rfl dX8_isKnown_4 ?_
      refine M.bipush (pc := 5) (by decide +kernel) dX8_isKnown_5 ?_
      refine M.icmp_ge (pc := 7) (tgt := 47) dX8_isKnown_7 (by decide) (by omega) (by omega) (fun c7 => ?_) (fun c7 => ?_)
      · refine M.iloadn (pc := 47) 2 rfl rfl dX8_isKnown_47 ?_
        exact EI kn _ _ _ _ dX8_isKnown_48 (Or.inr ⟨rfl, by first | exact Or.inl rfl | exact Or.inr rfl | exact pI_01 _⟩) (rfl) (rfl) (⟨fun z c d hc hd => hkn.mp z c hc.1.1 (by have := hc.1.2; omega) hc.2 d hd, fun z => hkn.mpr (fun c h0 h1 h2 d hd => z c d ⟨⟨h0, by omega⟩, h2⟩ hd)⟩)
      · have L40 : ∀ {kn2 : Bool}, (kn2 = true ↔ ∀ c, 0 ≤ c → c < k + 1 → tb S c = true → ∀ d, me S d → AL (VTt vb vn) (hC gb gt vo vn) c d) → V 0 0 40 [(m, eO 8 [.int (iI vb), .ref aBath, .int (iI vn), .ref aBather, .int (iI vo), .int (iI vm), .ref aMorn, .int (iI vs), .ref aText, .int (iI vt), .int (iI vf), .int (iI va), .long (lI vsd), .int (iI vw), .int (iI vu), .int (iI vna), .int (iI vrb), .ref aRB, .int (iI vrn), .ref aRN, .int (iI vro), .ref aLow, .ref aHigh, .int (iI (pI (vch = true))), .ref aNeeds, .ref aLikes, .ref aHts, .int (iI vtr), .int (iI vbk), .ref aBook, .ref aImg, .ref aKept]), (aLikes, eI G 13 gk)] [some (.ref m), some (.int (iI S)), none, some (.int (iI k))] [.int (iI (pI (kn2 = true)))] := by
          intro kn2 hkn2
          refine M.istoren (pc := 40) 2 rfl (Nat.le_of_ble_eq_true rfl) rfl dX8_isKnown_40 ?_
          dsimp only [List.set_cons_zero, List.set_cons_succ]
          refine M.iinc (pc := 41) (i := 3) rfl rfl dX8_isKnown_41 ?_
          dsimp only [List.set_cons_zero, List.set_cons_succ]
          refine M.goto (pc := 44) (tgt := 4) dX8_isKnown_44 (by decide) ?_
          exact ih4  (by first | assumption | omega) (by exact hkn2) (by omega)
        have hSb := hS.1
        refine M.iloadn (pc := 10) 2 rfl rfl dX8_isKnown_10 ?_
        refine M.if_eqP (pc := 11) (tgt := 39) dX8_isKnown_11 (by decide) (fun c11 => ?_) (fun c11 => ?_)
        · refine M.iconst (pc := 39) dX8_isKnown_39 ?_
          refine M.forget 2 ?_
          dsimp only [List.set_cons_zero, List.set_cons_succ]
          exact L40 (kn2 := false) (by exact ⟨fun z => absurd z (by decide), fun z => absurd (hkn.mpr (fun c h0 h1 => z c h0 (by omega))) (by first | exact c11 | exact fun _ => c32 (andn_z hS.1 (fun d h0 h1 h2 => by rw [hgk]; unfold alM; rw [cm_13 _ h0 h1]; exact alB_t.mpr ⟨hS.2 d ⟨⟨h0, h1⟩, h2⟩, z k hk.1 (by omega) c19 d ⟨⟨h0, h1⟩, h2⟩⟩)))⟩)
        · refine M.iloadn (pc := 14) 1 rfl rfl dX8_isKnown_14 ?_
          refine M.iloadn (pc := 15) 3 rfl rfl dX8_isKnown_15 ?_
          refine M.pS (pc := 16) (c_X8_has  (by first | assumption | omega) (by first | assumption | omega) (by first | assumption | omega) (by first | assumption | omega)) ms_X8_191 [] rfl rfl rfl rfl (Nat.le_of_ble_eq_true rfl) rfl ⟨(Nat.le_of_ble_eq_true rfl), (Nat.le_of_ble_eq_true rfl)⟩ ⟨(Nat.le_of_ble_eq_true rfl), (Nat.le_of_ble_eq_true rfl)⟩ rfl dX8_isKnown_16 ?_
          refine M.if_eqP (pc := 19) (tgt := 35) dX8_isKnown_19 (by decide) (fun c19 => ?_) (fun c19 => ?_)
          · refine M.iconst (pc := 35) dX8_isKnown_35 ?_
            refine M.goto (pc := 36) (tgt := 40) dX8_isKnown_36 (by decide) ?_
            refine M.forget 2 ?_
            dsimp only [List.set_cons_zero, List.set_cons_succ]
            exact L40 (kn2 := true) (by exact ⟨fun _ c h0 h1 h2 d hd => by rcases (by omega : c < k ∨ c = k) with q | q; exact hkn.mp c11 c h0 q h2 d hd; subst q; first | exact absurd h2 c19 | exact (alB_t.mp ((cm_13 _ hd.1.1 hd.1.2).symm.trans (by have := andn_0 c32 d hd.2; rw [hgk] at this; exact this))).2, fun _ => rfl⟩)
          · have hpk : prB vn k = true := hS.2 k ⟨⟨hk.1, by omega⟩, c19⟩
            have hgk : gk k = alM (VTt vb vn) (hC gb gt vo vn) (prB vn) k := by rw [hL k hk.1 (by omega), if_pos hpk]
            have hgb : 0 ≤ gk k ∧ gk k < 8192 := by rw [hgk]; exact cm_13b _
            have han := andn_b (b := gk k) hS.1.1
            refine M.iloadn (pc := 22) 1 rfl rfl dX8_isKnown_22 ?_
            refine M.aloadn (pc := 23) 0 rfl rfl dX8_isKnown_23 ?_
            refine M.getf (pc := 24) fg_X8_44 0 rfl rfl dX8_isKnown_24 ?_
            refine M.iloadn (pc := 27) 3 rfl rfl dX8_isKnown_27 ?_
            refine M.iald (pc := 28) 1 rfl (by omega) (by omega) dX8_isKnown_28 ?_
            refine M.iconst (pc := 29) dX8_isKnown_29 ?_
            refine M.ixor (pc := 30) (iI_of _) dX8_isKnown_30 ?_
            refine M.iand (pc := 31) (andn_ok hS.1.1 hgb.1) dX8_isKnown_31 ?_
            refine M.if_ne (pc := 32) (tgt := 39) dX8_isKnown_32 (by decide) (by omega) (fun c32 => ?_) (fun c32 => ?_)
            · refine M.iconst (pc := 39) dX8_isKnown_39 ?_
              refine M.forget 2 ?_
              dsimp only [List.set_cons_zero, List.set_cons_succ]
              exact L40 (kn2 := false) (by exact ⟨fun z => absurd z (by decide), fun z => absurd (hkn.mpr (fun c h0 h1 => z c h0 (by omega))) (by first | exact c11 | exact fun _ => c32 (andn_z hS.1 (fun d h0 h1 h2 => by rw [hgk]; unfold alM; rw [cm_13 _ h0 h1]; exact alB_t.mpr ⟨hS.2 d ⟨⟨h0, h1⟩, h2⟩, z k hk.1 (by omega) c19 d ⟨⟨h0, h1⟩, h2⟩⟩)))⟩)
            · refine M.iconst (pc := 35) dX8_isKnown_35 ?_
              refine M.goto (pc := 36) (tgt := 40) dX8_isKnown_36 (by decide) ?_
              refine M.forget 2 ?_
              dsimp only [List.set_cons_zero, List.set_cons_succ]
              exact L40 (kn2 := true) (by exact ⟨fun _ c h0 h1 h2 d hd => by rcases (by omega : c < k ∨ c = k) with q | q; exact hkn.mp c11 c h0 q h2 d hd; subst q; first | exact absurd h2 c19 | exact (alB_t.mp ((cm_13 _ hd.1.1 hd.1.2).symm.trans (by have := andn_0 c32 d hd.2; rw [hgk] at this; exact this))).2, fun _ => rfl⟩)
  exact L4 _ (kn := true) (by first | assumption | omega) (by exact ⟨fun _ c _ h => by omega, fun _ => rfl⟩) (Nat.lt_succ_self _)
set_option maxHeartbeats 4000000 in
set_option maxRecDepth 100000 in
theorem c_X8_worstBy {l : Launch} {G : GT} {m aBath aBather aMorn aText aRB aRN aLow aHigh aNeeds aLikes aHts aBook aImg aKept : Nat} {vb vn vo vm vs vt vf va vw vu vna vrb vrn vro vtr vbk vsd : Int} {vch : Bool} {gn : Int → Int} {gq : Int → Int} {gb gt : Int → Int} {b s T0 S : Int} (hS : SET (prB vn) S) (hS0 : S ≠ 0) (hT0 : T0 = tix vn b s ∧ (0 ≤ T0 ∧ T0 < 126)) (hq : ∀ c, 0 ≤ c → c < 13 → prB vn c = true → gq (13 * T0 + c) = (hC gb gt vo vn) (b * 64 + s) c ∧ (0 ≤ (hC gb gt vo vn) (b * 64 + s) c ∧ (hC gb gt vo vn) (b * 64 + s) c ≤ 30000)) (hN : NDS (VTt vb vn) (hC gb gt vo vn) gn S) : Con l G yX8_worstBy cX8_worstBy 8 (some .int) { frames := 1, cells := 0, slots := 0, locals := 21 } [.ref m, .int (iI T0), .int (iI S)] [(m, eO 8 [.int (iI vb), .ref aBath, .int (iI vn), .ref aBather, .int (iI vo), .int (iI vm), .ref aMorn, .int (iI vs), .ref aText, .int (iI vt), .int (iI vf), .int (iI va), .long (lI vsd), .int (iI vw), .int (iI vu), .int (iI vna), .int (iI vrb), .ref aRB, .int (iI vrn), .ref aRN, .int (iI vro), .ref aLow, .ref aHigh, .int (iI (pI (vch = true))), .ref aNeeds, .ref aLikes, .ref aHts, .int (iI vtr), .int (iI vbk), .ref aBook, .ref aImg, .ref aKept]), (aNeeds, eI G 8192 gn), (aHts, eI G 1638 gq)] (S := Int) (fun u => some (.int (iI u))) (fun _ => [(m, eO 8 [.int (iI vb), .ref aBath, .int (iI vn), .ref aBather, .int (iI vo), .int (iI vm), .ref aMorn, .int (iI vs), .ref aText, .int (iI vt), .int (iI vf), .int (iI va), .long (lI vsd), .int (iI vw), .int (iI vu), .int (iI vna), .int (iI vrb), .ref aRB, .int (iI vrn), .ref aRN, .int (iI vro), .ref aLow, .ref aHigh, .int (iI (pI (vch = true))), .ref aNeeds, .ref aLikes, .ref aHts, .int (iI vtr), .int (iI vbk), .ref aBook, .ref aImg, .ref aKept]), (aNeeds, eI G 8192 gn), (aHts, eI G 1638 gq)]) (fun u => WB (hC gb gt vo vn) gn S (b * 64 + s) u) := by
  refine Con.mk (by decide +kernel) [some (.ref m), some (.int (iI T0)), some (.int (iI S)), none, none, none, none, none] rfl (Nat.le_of_ble_eq_true rfl) rfl ?_
  intro V M EI EL EV EA
  have hSb := hS.1
  refine M.iconst (pc := 0) dX8_worstBy_0 ?_
  refine M.istoren (pc := 1) 3 rfl (Nat.le_of_ble_eq_true rfl) rfl dX8_worstBy_1 ?_
  dsimp only [List.set_cons_zero, List.set_cons_succ]
  refine M.iloadn (pc := 2) 2 rfl rfl dX8_worstBy_2 ?_
  refine M.istore (pc := 3) (i := 4) (Nat.le_of_ble_eq_true rfl) rfl dX8_worstBy_3 ?_
  dsimp only [List.set_cons_zero, List.set_cons_succ]
  have L5 : ∀ (fu : Nat) {left worst : Int}, ((0 ≤ left ∧ left < 8192) ∧ ∀ d, me left d → me S d) → (∀ c d, me S c → me S d → (hC gb gt vo vn) (b * 64 + s) c = (hC gb gt vo vn) (b * 64 + s) d → (me left c ↔ me left d)) → (0 ≤ worst ∧ worst ≤ 13) → ((left = S ∧ worst = 0) ∨ (SPL (hC gb gt vo vn) (b * 64 + s) S ∧ ∃ c, me S c ∧ worst = gn (PT (hC gb gt vo vn) (b * 64 + s) S c))) → (∀ c, me S c → ¬ me left c → gn (PT (hC gb gt vo vn) (b * 64 + s) S c) ≤ worst) → left.toNat < fu → V 0 0 5 [(m, eO 8 [.int (iI vb), .ref aBath, .int (iI vn), .ref aBather, .int (iI vo), .int (iI vm), .ref aMorn, .int (iI vs), .ref aText, .int (iI vt), .int (iI vf), .int (iI va), .long (lI vsd), .int (iI vw), .int (iI vu), .int (iI vna), .int (iI vrb), .ref aRB, .int (iI vrn), .ref aRN, .int (iI vro), .ref aLow, .ref aHigh, .int (iI (pI (vch = true))), .ref aNeeds, .ref aLikes, .ref aHts, .int (iI vtr), .int (iI vbk), .ref aBook, .ref aImg, .ref aKept]), (aNeeds, eI G 8192 gn), (aHts, eI G 1638 gq)] [some (.ref m), some (.int (iI T0)), some (.int (iI S)), some (.int (iI worst)), some (.int (iI left)), none, none, none] [] := by
    intro fu
    induction fu with
    | zero => intro left worst hl hcl hw hws hwm hm; exact absurd hm (Nat.not_lt_zero _)
    | succ fu ih5 =>
      intro left worst hl hcl hw hws hwm hm5
      refine M.iload (pc := 5) (i := 4) rfl dX8_worstBy_5 ?_
      refine M.if_eq (pc := 7) (tgt := 144) dX8_worstBy_7 (by decide) (by omega) (fun c7 => ?_) (fun c7 => ?_)
      · refine M.iloadn (pc := 144) 3 rfl rfl dX8_worstBy_144 ?_
        exact EI worst _ _ _ _ dX8_worstBy_145 (Or.inl rfl) (rfl) (rfl) (by rcases hws with z | z; exact absurd (z.1.symm.trans c7) hS0; exact ⟨fun y => absurd z.1 y, fun _ => ⟨hw, fun c hc => hwm c hc (fun y => by have := y.2; rw [c7, tb_0] at this; exact absurd this (by decide)), z.2⟩⟩)
      · obtain ⟨mm, hmm⟩ := me_ex hl.1 c7
        refine M.iconst (pc := 10) dX8_worstBy_10 ?_
        refine M.istore (pc := 11) (i := 5) (Nat.le_of_ble_eq_true rfl) rfl dX8_worstBy_11 ?_
        dsimp only [List.set_cons_zero, List.set_cons_succ]
        have L13 : ∀ (fu : Nat) {fi : Int}, (0 ≤ fi ∧ fi < 13) → (∀ d, 0 ≤ d → d < fi → tb left d = false) → (13 - fi).toNat < fu → V 0 0 13 [(m, eO 8 [.int (iI vb), .ref aBath, .int (iI vn), .ref aBather, .int (iI vo), .int (iI vm), .ref aMorn, .int (iI vs), .ref aText, .int (iI vt), .int (iI vf), .int (iI va), .long (lI vsd), .int (iI vw), .int (iI vu), .int (iI vna), .int (iI vrb), .ref aRB, .int (iI vrn), .ref aRN, .int (iI vro), .ref aLow, .ref aHigh, .int (iI (pI (vch = true))), .ref aNeeds, .ref aLikes, .ref aHts, .int (iI vtr), .int (iI vbk), .ref aBook, .ref aImg, .ref aKept]), (aNeeds, eI G 8192 gn), (aHts, eI G 1638 gq)] [some (.ref m), some (.int (iI T0)), some (.int (iI S)), some (.int (iI worst)), some (.int (iI left)), some (.int (iI fi)), none, none] [] := by
          intro fu
          induction fu with
          | zero => intro fi hfi hfn hm; exact absurd hm (Nat.not_lt_zero _)
          | succ fu ih13 =>
            intro fi hfi hfn hm13
            refine M.iload (pc := 13) (i := 4) rfl dX8_worstBy_13 ?_
            refine M.iload (pc := 15) (i := 5) rfl dX8_worstBy_15 ?_
            refine M.pS (pc := 17) (c_X8_has  (by first | assumption | omega) (by first | assumption | omega) (by first | assumption | omega) (by first | assumption | omega)) ms_X8_191 [] rfl rfl rfl rfl (Nat.le_of_ble_eq_true rfl) rfl ⟨(Nat.le_of_ble_eq_true rfl), (Nat.le_of_ble_eq_true rfl)⟩ ⟨(Nat.le_of_ble_eq_true rfl), (Nat.le_of_ble_eq_true rfl)⟩ rfl dX8_worstBy_17 ?_
            refine M.if_neP (pc := 20) (tgt := 29) dX8_worstBy_20 (by decide) (fun c20 => ?_) (fun c20 => ?_)
            · refine M.iconst (pc := 29) dX8_worstBy_29 ?_
              refine M.istore (pc := 30) (i := 6) (Nat.le_of_ble_eq_true rfl) rfl dX8_worstBy_30 ?_
              dsimp only [List.set_cons_zero, List.set_cons_succ]
              refine M.iload (pc := 32) (i := 5) rfl dX8_worstBy_32 ?_
              refine M.istore (pc := 34) (i := 7) (Nat.le_of_ble_eq_true rfl) rfl dX8_worstBy_34 ?_
              dsimp only [List.set_cons_zero, List.set_cons_succ]
              have L36 : ∀ (fu : Nat) {k part : Int}, (fi ≤ k ∧ k ≤ 13) → (part = cm (fun d => tb left d && decide ((hC gb gt vo vn) (b * 64 + s) d = (hC gb gt vo vn) (b * 64 + s) fi)) k.toNat) → (13 - k).toNat < fu → V 0 0 36 [(m, eO 8 [.int (iI vb), .ref aBath, .int (iI vn), .ref aBather, .int (iI vo), .int (iI vm), .ref aMorn, .int (iI vs), .ref aText, .int (iI vt), .int (iI vf), .int (iI va), .long (lI vsd), .int (iI vw), .int (iI vu), .int (iI vna), .int (iI vrb), .ref aRB, .int (iI vrn), .ref aRN, .int (iI vro), .ref aLow, .ref aHigh, .int (iI (pI (vch = true))), .ref aNeeds, .ref aLikes, .ref aHts, .int (iI vtr), .int (iI vbk), .ref aBook, .ref aImg, .ref aKept]), (aNeeds, eI G 8192 gn), (aHts, eI G 1638 gq)] [some (.ref m), some (.int (iI T0)), some (.int (iI S)), some (.int (iI worst)), some (.int (iI left)), some (.int (iI fi)), some (.int (iI part)), some (.int (iI k))] [] := by
                intro fu
                induction fu with
                | zero => intro k part hk hpt hm; exact absurd hm (Nat.not_lt_zero _)
                | succ fu ih36 =>
                  intro k part hk hpt hm36
                  refine M.iload (pc := 36) (i := 7) rfl dX8_worstBy_36 ?_
                  refine M.bipush (pc := 38) (by decide +kernel) dX8_worstBy_38 ?_
                  refine M.icmp_ge (pc := 40) (tgt := 99) dX8_worstBy_40 (by decide) (by omega) (by omega) (fun c40 => ?_) (fun c40 => ?_)
                  · have hpe : part = PT (hC gb gt vo vn) (b * 64 + s) S fi := by
                      rw [hpt, show k.toNat = 13 by omega]
                      unfold PT
                      refine cm_ext 13 (fun j hj => ?_)
                      by_cases e : (hC gb gt vo vn) (b * 64 + s) (j : Int) = (hC gb gt vo vn) (b * 64 + s) fi
                      · have q1 := hcl (j : Int) fi
                        by_cases w : tb S (j : Int) = true
                        · have := (q1 ⟨⟨by omega, by omega⟩, w⟩ (hl.2 fi ⟨hfi, c20⟩) e).mpr ⟨hfi, c20⟩
                          rw [this.2, w]
                        · have : tb left (j : Int) = false := Bool.eq_false_iff.mpr (fun z => w (hl.2 (j : Int) ⟨⟨by omega, by omega⟩, z⟩).2)
                          rw [this, Bool.eq_false_iff.mpr w]
                      · simp [e]
                    have hpb := cm_13b (fun d => tb S d && decide ((hC gb gt vo vn) (b * 64 + s) d = (hC gb gt vo vn) (b * 64 + s) fi))
                    rw [show cm (fun d => tb S d && decide ((hC gb gt vo vn) (b * 64 + s) d = (hC gb gt vo vn) (b * 64 + s) fi)) 13 = part from hpe.symm] at hpb
                    have hmf := hl.2 fi ⟨hfi, c20⟩
                    have hmp : me part fi := by rw [hpe]; exact me_PT.mpr ⟨hmf, rfl⟩
                    refine M.iload (pc := 99) (i := 6) rfl dX8_worstBy_99 ?_
                    refine M.iloadn (pc := 101) 2 rfl rfl dX8_worstBy_101 ?_
                    refine M.icmp_ne (pc := 102) (tgt := 109) dX8_worstBy_102 (by decide) (by omega) (by omega) (fun c102 => ?_) (fun c102 => ?_)
                    · have hspl : SPL (hC gb gt vo vn) (b * 64 + s) S := by
                        refine Classical.byContradiction (fun z => c102 ?_)
                        rw [hpe]
                        refine mask_ext (cm_13b _) hS.1 (fun d h0 h1 => ?_)
                        by_cases w : tb S d = true
                        · rw [w]
                          exact (me_PT.mpr ⟨⟨⟨h0, h1⟩, w⟩, Classical.byContradiction (fun y => z ⟨d, fi, ⟨⟨h0, h1⟩, w⟩, hmf, y⟩)⟩).2
                        · rw [Bool.eq_false_iff.mpr w]
                          exact Bool.eq_false_iff.mpr (fun y => w (me_PT.mp ⟨⟨h0, h1⟩, y⟩).1.2)
                      have hnd := hN part hpb (fun d hd => by rw [hpe] at hd; exact (me_PT.mp hd).1) c102
                      have hndb := hnd.1
                      have hab := andn_b (b := part) hl.1.1
                      have hlt : andn left part < left := by
                        rcases (by omega : andn left part < left ∨ andn left part = left) with q | q
                        · exact q
                        · have w1 := tb_andn left part fi
                          rw [q, c20, hmp.2] at w1
                          exact absurd w1 (by decide)
                      refine M.iload (pc := 109) (i := 4) rfl dX8_worstBy_109 ?_
                      refine M.iload (pc := 111) (i := 6) rfl dX8_worstBy_111 ?_
                      refine M.iconst (pc := 113) dX8_worstBy_113 ?_
                      refine M.ixor (pc := 114) (iI_of _) dX8_worstBy_114 ?_
                      refine M.iand (pc := 115) (andn_ok hl.1.1 hpb.1) dX8_worstBy_115 ?_
                      refine M.istore (pc := 116) (i := 4) (Nat.le_of_ble_eq_true rfl) rfl dX8_worstBy_116 ?_
                      dsimp only [List.set_cons_zero, List.set_cons_succ]
                      have L140 : ∀ {w2 : Int}, (w2 = max (gn part) worst) → V 0 0 140 [(m, eO 8 [.int (iI vb), .ref aBath, .int (iI vn), .ref aBather, .int (iI vo), .int (iI vm), .ref aMorn, .int (iI vs), .ref aText, .int (iI vt), .int (iI vf), .int (iI va), .long (lI vsd), .int (iI vw), .int (iI vu), .int (iI vna), .int (iI vrb), .ref aRB, .int (iI vrn), .ref aRN, .int (iI vro), .ref aLow, .ref aHigh, .int (iI (pI (vch = true))), .ref aNeeds, .ref aLikes, .ref aHts, .int (iI vtr), .int (iI vbk), .ref aBook, .ref aImg, .ref aKept]), (aNeeds, eI G 8192 gn), (aHts, eI G 1638 gq)] [some (.ref m), some (.int (iI T0)), some (.int (iI S)), some (.int (iI worst)), some (.int (iI (andn left part))), some (.int (iI fi)), some (.int (iI part)), none] [.int (iI w2)] := by
                        intro w2 hw2
                        refine M.istoren (pc := 140) 3 rfl (Nat.le_of_ble_eq_true rfl) rfl dX8_worstBy_140 ?_
                        dsimp only [List.set_cons_zero, List.set_cons_succ]
                        refine M.goto (pc := 141) (tgt := 5) dX8_worstBy_141 (by decide) ?_
                        refine M.forget 5 ?_
                        dsimp only [List.set_cons_zero, List.set_cons_succ]
                        refine M.forget 6 ?_
                        dsimp only [List.set_cons_zero, List.set_cons_succ]
                        exact ih5  (by exact ⟨⟨hab.1, by omega⟩, fun d hd => hl.2 d ⟨hd.1, by have := hd.2; rw [tb_andn] at this; simp at this; exact this.1⟩⟩) (by intro c d hc hd hcd; have q := hcl c d hc hd hcd; have qp : me part c ↔ me part d := (by rw [hpe, me_PT, me_PT, hcd]; exact ⟨fun z => ⟨hd, z.2⟩, fun z => ⟨hc, z.2⟩⟩); unfold me at q qp ⊢; rw [tb_andn, tb_andn]; simp only [hc.1, hd.1, true_and, and_self, Bool.and_eq_true, Bool.not_eq_true'] at q qp ⊢; rw [q, ← Bool.not_eq_true, ← Bool.not_eq_true, qp]) (by have := hnd.1; omega) (by refine Or.inr ⟨hspl, ?_⟩; rcases (by omega : w2 = gn part ∨ (w2 = worst ∧ gn part ≤ worst)) with q | q; exact ⟨fi, hmf, by rw [q, hpe]⟩; rcases hws with z | z; exact ⟨fi, hmf, by rw [← hpe]; have := hnd.1; omega⟩; obtain ⟨c, z1, z2⟩ := z.2; exact ⟨c, z1, by omega⟩) (by intro c hc hn; by_cases q : me left c; have qp : me part c := (Classical.byContradiction (fun z => hn ⟨hc.1, by rw [tb_andn, q.2]; simp; exact Bool.eq_false_iff.mpr (fun y => z ⟨hc.1, y⟩)⟩)); rw [hpe, me_PT] at qp; (have e : PT (hC gb gt vo vn) (b * 64 + s) S c = part := (by rw [hpe]; unfold PT; rw [qp.2])); rw [e]; omega; have := hwm c hc q; omega) (by omega)
                      refine M.aloadn (pc := 118) 0 rfl rfl dX8_worstBy_118 ?_
                      refine M.getf (pc := 119) fg_X8_41 0 rfl rfl dX8_worstBy_119 ?_
                      refine M.iload (pc := 122) (i := 6) rfl dX8_worstBy_122 ?_
                      refine M.iald (pc := 124) 1 rfl (by omega) (by omega) dX8_worstBy_124 ?_
                      refine M.iloadn (pc := 125) 3 rfl rfl dX8_worstBy_125 ?_
                      refine M.icmp_le (pc := 126) (tgt := 139) dX8_worstBy_126 (by decide) (by omega) (by omega) (fun c126 => ?_) (fun c126 => ?_)
                      · refine M.iloadn (pc := 139) 3 rfl rfl dX8_worstBy_139 ?_
                        refine M.forget 7 ?_
                        dsimp only [List.set_cons_zero, List.set_cons_succ]
                        exact L140  (by omega)
                      · refine M.aloadn (pc := 129) 0 rfl rfl dX8_worstBy_129 ?_
                        refine M.getf (pc := 130) fg_X8_41 0 rfl rfl dX8_worstBy_130 ?_
                        refine M.iload (pc := 133) (i := 6) rfl dX8_worstBy_133 ?_
                        refine M.iald (pc := 135) 1 rfl (by omega) (by omega) dX8_worstBy_135 ?_
                        refine M.goto (pc := 136) (tgt := 140) dX8_worstBy_136 (by decide) ?_
                        refine M.forget 7 ?_
                        dsimp only [List.set_cons_zero, List.set_cons_succ]
                        exact L140  (by omega)
                    · refine M.sipush (pc := 105) (by decide +kernel) dX8_worstBy_105 ?_
                      exact EI 1000 _ _ _ _ dX8_worstBy_108 (Or.inl rfl) (rfl) (rfl) (⟨fun _ => rfl, fun ⟨a, d, h1, h2, h3⟩ => absurd (by rw [(me_PT.mp (show me (PT (hC gb gt vo vn) (b * 64 + s) S fi) a by rw [← hpe, c102]; exact h1)).2, (me_PT.mp (show me (PT (hC gb gt vo vn) (b * 64 + s) S fi) d by rw [← hpe, c102]; exact h2)).2]) h3⟩)
                  · refine M.iload (pc := 43) (i := 6) rfl dX8_worstBy_43 ?_
                    refine M.iload (pc := 45) (i := 4) rfl dX8_worstBy_45 ?_
                    refine M.iload (pc := 47) (i := 7) rfl dX8_worstBy_47 ?_
                    refine M.pS (pc := 49) (c_X8_has  (by first | assumption | omega) (by first | assumption | omega) (by first | assumption | omega) (by first | assumption | omega)) ms_X8_191 [] rfl rfl rfl rfl (Nat.le_of_ble_eq_true rfl) rfl ⟨(Nat.le_of_ble_eq_true rfl), (Nat.le_of_ble_eq_true rfl)⟩ ⟨(Nat.le_of_ble_eq_true rfl), (Nat.le_of_ble_eq_true rfl)⟩ rfl dX8_worstBy_49 ?_
                    refine M.if_eqP (pc := 52) (tgt := 89) dX8_worstBy_52 (by decide) (fun c52 => ?_) (fun c52 => ?_)
                    · refine M.iconst (pc := 89) dX8_worstBy_89 ?_
                      refine M.ior (pc := 90) ((by
    first
      | exact cm_o0 (p := fun d => tb left d && decide ((hC gb gt vo vn) (b * 64 + s) d = (hC gb gt vo vn) (b * 64 + s) fi)) hpt (by omega) (by rw [Bool.eq_false_iff.mpr c52]; rfl)
      | exact cm_o1 (p := fun d => tb left d && decide ((hC gb gt vo vn) (b * 64 + s) d = (hC gb gt vo vn) (b * 64 + s) fi)) hpt (by omega) (by simp [c52, ← hqk.1, ← hqf.1, c79])
      | exact cm_o0 (p := fun d => tb left d && decide ((hC gb gt vo vn) (b * 64 + s) d = (hC gb gt vo vn) (b * 64 + s) fi)) hpt (by omega) (by simp [← hqk.1, ← hqf.1, c79]))) dX8_worstBy_90 ?_
                      refine M.istore (pc := 91) (i := 6) (Nat.le_of_ble_eq_true rfl) rfl dX8_worstBy_91 ?_
                      dsimp only [List.set_cons_zero, List.set_cons_succ]
                      refine M.iinc (pc := 93) (i := 7) rfl rfl dX8_worstBy_93 ?_
                      dsimp only [List.set_cons_zero, List.set_cons_succ]
                      refine M.goto (pc := 96) (tgt := 36) dX8_worstBy_96 (by decide) ?_
                      exact ih36  (by first | assumption | omega) (by rfl) (by omega)
                    · have hqk := hq k (by omega) (by omega) (hS.2 k (hl.2 k ⟨⟨by omega, by omega⟩, c52⟩))
                      have hqf := hq fi hfi.1 hfi.2 (hS.2 fi (hl.2 fi ⟨hfi, c20⟩))
                      refine M.aloadn (pc := 55) 0 rfl rfl dX8_worstBy_55 ?_
                      refine M.getf (pc := 56) fg_X8_47 0 rfl rfl dX8_worstBy_56 ?_
                      refine M.bipush (pc := 59) (by decide +kernel) dX8_worstBy_59 ?_
                      refine M.iloadn (pc := 61) 1 rfl rfl dX8_worstBy_61 ?_
                      refine M.imul (pc := 62) dX8_worstBy_62 ?_
                      refine M.iload (pc := 63) (i := 7) rfl dX8_worstBy_63 ?_
                      refine M.iadd (pc := 65) dX8_worstBy_65 ?_
                      refine M.iald (pc := 66) 2 rfl (by omega) (by omega) dX8_worstBy_66 ?_
                      refine M.aloadn (pc := 67) 0 rfl rfl dX8_worstBy_67 ?_
                      refine M.getf (pc := 68) fg_X8_47 0 rfl rfl dX8_worstBy_68 ?_
                      refine M.bipush (pc := 71) (by decide +kernel) dX8_worstBy_71 ?_
                      refine M.iloadn (pc := 73) 1 rfl rfl dX8_worstBy_73 ?_
                      refine M.imul (pc := 74) dX8_worstBy_74 ?_
                      refine M.iload (pc := 75) (i := 5) rfl dX8_worstBy_75 ?_
                      refine M.iadd (pc := 77) dX8_worstBy_77 ?_
                      refine M.iald (pc := 78) 2 rfl (by omega) (by omega) dX8_worstBy_78 ?_
                      refine M.icmp_ne (pc := 79) (tgt := 89) dX8_worstBy_79 (by decide) (by omega) (by omega) (fun c79 => ?_) (fun c79 => ?_)
                      · refine M.iconst (pc := 89) dX8_worstBy_89 ?_
                        refine M.ior (pc := 90) ((by
    first
      | exact cm_o0 (p := fun d => tb left d && decide ((hC gb gt vo vn) (b * 64 + s) d = (hC gb gt vo vn) (b * 64 + s) fi)) hpt (by omega) (by rw [Bool.eq_false_iff.mpr c52]; rfl)
      | exact cm_o1 (p := fun d => tb left d && decide ((hC gb gt vo vn) (b * 64 + s) d = (hC gb gt vo vn) (b * 64 + s) fi)) hpt (by omega) (by simp [c52, ← hqk.1, ← hqf.1, c79])
      | exact cm_o0 (p := fun d => tb left d && decide ((hC gb gt vo vn) (b * 64 + s) d = (hC gb gt vo vn) (b * 64 + s) fi)) hpt (by omega) (by simp [← hqk.1, ← hqf.1, c79]))) dX8_worstBy_90 ?_
                        refine M.istore (pc := 91) (i := 6) (Nat.le_of_ble_eq_true rfl) rfl dX8_worstBy_91 ?_
                        dsimp only [List.set_cons_zero, List.set_cons_succ]
                        refine M.iinc (pc := 93) (i := 7) rfl rfl dX8_worstBy_93 ?_
                        dsimp only [List.set_cons_zero, List.set_cons_succ]
                        refine M.goto (pc := 96) (tgt := 36) dX8_worstBy_96 (by decide) ?_
                        exact ih36  (by first | assumption | omega) (by rfl) (by omega)
                      · refine M.iconst (pc := 82) dX8_worstBy_82 ?_
                        refine M.iload (pc := 83) (i := 7) rfl dX8_worstBy_83 ?_
                        refine M.ishl (pc := 85) (bit_shl1 (by omega) (by omega)) dX8_worstBy_85 ?_
                        refine M.goto (pc := 86) (tgt := 90) dX8_worstBy_86 (by decide) ?_
                        refine M.ior (pc := 90) ((by
    first
      | exact cm_o0 (p := fun d => tb left d && decide ((hC gb gt vo vn) (b * 64 + s) d = (hC gb gt vo vn) (b * 64 + s) fi)) hpt (by omega) (by rw [Bool.eq_false_iff.mpr c52]; rfl)
      | exact cm_o1 (p := fun d => tb left d && decide ((hC gb gt vo vn) (b * 64 + s) d = (hC gb gt vo vn) (b * 64 + s) fi)) hpt (by omega) (by simp [c52, ← hqk.1, ← hqf.1, c79])
      | exact cm_o0 (p := fun d => tb left d && decide ((hC gb gt vo vn) (b * 64 + s) d = (hC gb gt vo vn) (b * 64 + s) fi)) hpt (by omega) (by simp [← hqk.1, ← hqf.1, c79]))) dX8_worstBy_90 ?_
                        refine M.istore (pc := 91) (i := 6) (Nat.le_of_ble_eq_true rfl) rfl dX8_worstBy_91 ?_
                        dsimp only [List.set_cons_zero, List.set_cons_succ]
                        refine M.iinc (pc := 93) (i := 7) rfl rfl dX8_worstBy_93 ?_
                        dsimp only [List.set_cons_zero, List.set_cons_succ]
                        refine M.goto (pc := 96) (tgt := 36) dX8_worstBy_96 (by decide) ?_
                        exact ih36  (by first | assumption | omega) (by rfl) (by omega)
              exact L36 _  (by first | assumption | omega) (by exact (cmNone _ (fun j hj => by simp [hfn j (by omega) (by omega)])).symm) (Nat.lt_succ_self _)
            · refine M.iinc (pc := 23) (i := 5) rfl rfl dX8_worstBy_23 ?_
              dsimp only [List.set_cons_zero, List.set_cons_succ]
              refine M.goto (pc := 26) (tgt := 13) dX8_worstBy_26 (by decide) ?_
              exact ih13  (by exact ⟨by omega, by rcases (by omega : fi < 12 ∨ fi = 12) with q | q; omega; exact absurd hmm.2 (by rcases (by have := hmm.1; omega : mm < fi ∨ mm = fi) with w | w; rw [hfn mm hmm.1.1 w]; decide; rw [w]; exact c20)⟩) (by intro d h0 h1; rcases (by omega : d < fi ∨ d = fi) with q | q; exact hfn d h0 q; rw [q]; exact Bool.eq_false_iff.mpr c20) (by omega)
        exact L13 _  (by first | assumption | omega) (by intro d _ h; omega) (Nat.lt_succ_self _)
  exact L5 _  (by exact ⟨hS.1, fun _ h => h⟩) (by intro c d hc hd _; exact ⟨fun _ => hd, fun _ => hc⟩) (by omega) (by exact Or.inl ⟨rfl, rfl⟩) (by intro c h1 h2; exact absurd h1 h2) (Nat.lt_succ_self _)
