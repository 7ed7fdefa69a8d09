/-! the reference's cases -/
def VTt (nb n : Int) (t : Int) : Prop := (0 ≤ t ∧ t < 128) ∧ t / 64 < nb ∧ t % 64 < p2 n
def hC (fb ft : Int → Int) (od : Int) (n : Int) : Int → Int → Int := fun t c => hHei fb (t / 64) 0 (caseS ft od n.toNat (t % 64) c)
def prB (n : Int) : Int → Bool := fun c => decide (c = 0 ∨ (0 ≤ c - 1 ∧ c - 1 < n) ∨ (0 ≤ c - 7 ∧ c - 7 < n))
noncomputable def alB (vt : Int → Prop) (H : Int → Int → Int) (pr : Int → Bool) (c : Int) : Int → Bool := fun d => pr d && @decide (AL vt H c d) (Classical.propDecidable _)
noncomputable def alM (vt : Int → Prop) (H : Int → Int → Int) (pr : Int → Bool) (c : Int) : Int := cm (alB vt H pr c) 13
theorem alB_t {vt : Int → Prop} {H : Int → Int → Int} {pr : Int → Bool} {c d : Int} : alB vt H pr c d = true ↔ pr d = true ∧ AL vt H c d := by
  unfold alB
  rw [Bool.and_eq_true, @decide_eq_true_iff _ (Classical.propDecidable _)]
def PTD (vt : Int → Prop) (H : Int → Int → Int) (wo a b : Int) : Prop := ∃ t, vt t ∧ land (t % 64) wo = 0 ∧ H t a ≠ H t b
theorem hC_0 (fb ft : Int → Int) (od n : Int) {t : Int} (h : t % 64 = 0) (c d : Int) : hC fb ft od n t c = hC fb ft od n t d := by
  have key : ∀ (c : Int) (k : Nat), caseS ft od k 0 c = 0 := by
    intro c k
    unfold caseS
    induction k with
    | zero => rfl
    | succ k ih =>
      show sumT _ 0 k + _ = 0
      rw [ih, tb_0, if_neg (by decide)]
      rfl
  unfold hC
  rw [h, key c, key d]
theorem hC_bs {fb ft : Int → Int} {od n b s c : Int} (h0 : 0 ≤ s) (h1 : s < 64) : hC fb ft od n (b * 64 + s) c = hHei fb b 0 (caseS ft od n.toNat s c) := by
  unfold hC
  rw [show (b * 64 + s) / 64 = b by omega, show (b * 64 + s) % 64 = s by omega]
def tix (n b s : Int) : Int := (if b = 0 then 0 else p2 n - 1) + (s - 1)
/-- the table of heights, up to a try -/
def HQ (vb vn : Int) (H : Int → Int → Int) (pr : Int → Bool) (gq : Int → Int) (T : Int) : Prop := ∀ b s c, (0 ≤ b ∧ b < vb) → (1 ≤ s ∧ s < p2 vn) → (0 ≤ c ∧ c < 13) → tix vn b s < T → gq (13 * tix vn b s + c) = if pr c = true then H (b * 64 + s) c else -1
def LQ (vt : Int → Prop) (H : Int → Int → Int) (pr : Int → Bool) (gk : Int → Int) (k : Int) : Prop := ∀ c, 0 ≤ c → c < k → gk c = if pr c = true then alM vt H pr c else 0
set_option maxHeartbeats 4000000 in
set_option maxRecDepth 100000 in
theorem c_X8_isParted {l : Launch} {G : GT} {m aBath aBather aMorn aText aRB aRN aLow aHigh aNeeds aLikes aHts aBook aImg aKept : Nat} {vb vn vo vm vs vt vf va vw vu vna vrb vrn vro vtr vbk vsd : Int} {vch : Bool} {gb : Int → Int} {gt : Int → Int} {a b wo : Int} (hn : 0 ≤ vn ∧ vn ≤ 6) (hnb : 0 ≤ vb ∧ vb ≤ 2) (hV : HV gb vb) (hT : HVT gt vn) (ho : 0 ≤ vo ∧ vo ≤ 999) (ha : prB vn a = true ∧ 0 ≤ a ∧ a < 13) (hb : prB vn b = true ∧ 0 ≤ b ∧ b < 13) (hw : 0 ≤ wo ∧ wo < 64) : Con l G yX8_isParted cX8_isParted 7 (some .boolean) { frames := 3, cells := 0, slots := 0, locals := 70 } [.ref m, .int (iI a), .int (iI b), .int (iI wo)] [(m, eO 8 [.int (iI vb), .ref aBath, .int (iI vn), .ref aBather, .int (iI vo), .int (iI vm), .ref aMorn, .int (iI vs), .ref aText, .int (iI vt), .int (iI vf), .int (iI va), .long (lI vsd), .int (iI vw), .int (iI vu), .int (iI vna), .int (iI vrb), .ref aRB, .int (iI vrn), .ref aRN, .int (iI vro), .ref aLow, .ref aHigh, .int (iI (pI (vch = true))), .ref aNeeds, .ref aLikes, .ref aHts, .int (iI vtr), .int (iI vbk), .ref aBook, .ref aImg, .ref aKept]), (aBath, eI G 8 gb), (aBather, eI G 24 gt)] (S := Bool) (fun u => some (.int (iI (pI (u = true))))) (fun _ => [(m, eO 8 [.int (iI vb), .ref aBath, .int (iI vn), .ref aBather, .int (iI vo), .int (iI vm), .ref aMorn, .int (iI vs), .ref aText, .int (iI vt), .int (iI vf), .int (iI va), .long (lI vsd), .int (iI vw), .int (iI vu), .int (iI vna), .int (iI vrb), .ref aRB, .int (iI vrn), .ref aRN, .int (iI vro), .ref aLow, .ref aHigh, .int (iI (pI (vch = true))), .ref aNeeds, .ref aLikes, .ref aHts, .int (iI vtr), .int (iI vbk), .ref aBook, .ref aImg, .ref aKept]), (aBath, eI G 8 gb), (aBather, eI G 24 gt)]) (fun u => u = true ↔ PTD (VTt vb vn) (hC gb gt vo vn) wo a b) := by
  refine Con.mk (by decide +kernel) [some (.ref m), some (.int (iI a)), some (.int (iI b)), some (.int (iI wo)), none, none, none] rfl (Nat.le_of_ble_eq_true rfl) rfl ?_
  intro V M EI EL EV EA
  have hp6 := p2_6 hn.2
  have hp1 := p2_b (by omega : vn ≤ 13)
  refine M.iconst (pc := 0) dX8_isParted_0 ?_
  refine M.istore (pc := 1) (i := 4) (Nat.le_of_ble_eq_true rfl) rfl dX8_isParted_1 ?_
  dsimp only [List.set_cons_zero, List.set_cons_succ]
  refine M.iconst (pc := 3) dX8_isParted_3 ?_
  refine M.istore (pc := 4) (i := 5) (Nat.le_of_ble_eq_true rfl) rfl dX8_isParted_4 ?_
  dsimp only [List.set_cons_zero, List.set_cons_succ]
  have L6 : ∀ (fu : Nat) {x : Int} {pd : Bool}, (0 ≤ x ∧ x ≤ vb) → ((pd = true ∧ PTD (VTt vb vn) (hC gb gt vo vn) wo a b) ∨ (pd = false ∧ ∀ t, (VTt vb vn) t → t / 64 < x → land (t % 64) wo = 0 → (hC gb gt vo vn) t a = (hC gb gt vo vn) t b)) → (vb - x).toNat < fu → V 0 0 6 [(m, eO 8 [.int (iI vb), .ref aBath, .int (iI vn), .ref aBather, .int (iI vo), .int (iI vm), .ref aMorn, .int (iI vs), .ref aText, .int (iI vt), .int (iI vf), .int (iI va), .long (lI vsd), .int (iI vw), .int (iI vu), .int (iI vna), .int (iI vrb), .ref aRB, .int (iI vrn), .ref aRN, .int (iI vro), .ref aLow, .ref aHigh, .int (iI (pI (vch = true))), .ref aNeeds, .ref aLikes, .ref aHts, .int (iI vtr), .int (iI vbk), .ref aBook, .ref aImg, .ref aKept]), (aBath, eI G 8 gb), (aBather, eI G 24 gt)] [some (.ref m), some (.int (iI a)), some (.int (iI b)), some (.int (iI wo)), some (.int (iI (pI (pd = true)))), some (.int (iI x)), none] [] := by
    intro fu
    induction fu with
    | zero => intro x pd hx0 hpd hm; exact absurd hm (Nat.not_lt_zero _)
    | succ fu ih6 =>
      intro x pd hx0 hpd hm6
      refine M.iload (pc := 6) (i := 5) rfl dX8_isParted_6 ?_
      refine M.aloadn (pc := 8) 0 rfl rfl dX8_isParted_8 ?_
      refine M.getf (pc := 9) fg_X8_60 0 rfl rfl dX8_isParted_9 ?_
      refine M.icmp_ge (pc := 12) (tgt := 86) dX8_isParted_12 (by decide) (by omega) (by omega) (fun c12 => ?_) (fun c12 => ?_)
      · refine M.iload (pc := 86) (i := 4) rfl dX8_isParted_86 ?_
        have hfin : pd = true ↔ PTD (VTt vb vn) (hC gb gt vo vn) wo a b := by
          rcases hpd with ⟨q1, q2⟩ | ⟨q1, q2⟩
          · exact ⟨fun _ => q2, fun _ => q1⟩
          · refine ⟨fun z => absurd (q1.symm.trans z) (by decide), fun ⟨t, h1, h2, h3⟩ => ?_⟩
            first
              | exact absurd (q2 t h1 (by have := h1.2.1; omega) h2) h3
              | exact absurd c17 (by rw [q1]; decide)
        exact EI pd _ _ _ _ dX8_isParted_88 (Or.inr ⟨rfl, by first | exact Or.inl rfl | exact Or.inr rfl | exact pI_01 _⟩) (rfl) (rfl) (hfin)
      · refine M.iload (pc := 15) (i := 4) rfl dX8_isParted_15 ?_
        refine M.if_neP (pc := 17) (tgt := 86) dX8_isParted_17 (by decide) (fun c17 => ?_) (fun c17 => ?_)
        · refine M.iload (pc := 86) (i := 4) rfl dX8_isParted_86 ?_
          have hfin : pd = true ↔ PTD (VTt vb vn) (hC gb gt vo vn) wo a b := by
            rcases hpd with ⟨q1, q2⟩ | ⟨q1, q2⟩
            · exact ⟨fun _ => q2, fun _ => q1⟩
            · refine ⟨fun z => absurd (q1.symm.trans z) (by decide), fun ⟨t, h1, h2, h3⟩ => ?_⟩
              first
                | exact absurd (q2 t h1 (by have := h1.2.1; omega) h2) h3
                | exact absurd c17 (by rw [q1]; decide)
          exact EI pd _ _ _ _ dX8_isParted_88 (Or.inr ⟨rfl, by first | exact Or.inl rfl | exact Or.inr rfl | exact pI_01 _⟩) (rfl) (rfl) (hfin)
        · refine M.iconst (pc := 20) dX8_isParted_20 ?_
          refine M.istore (pc := 21) (i := 6) (Nat.le_of_ble_eq_true rfl) rfl dX8_isParted_21 ?_
          dsimp only [List.set_cons_zero, List.set_cons_succ]
          have L23 : ∀ (fu : Nat) {s : Int} {pd2 : Bool}, (1 ≤ s ∧ s ≤ p2 vn) → ((pd2 = true ∧ PTD (VTt vb vn) (hC gb gt vo vn) wo a b) ∨ (pd2 = false ∧ ∀ t, (VTt vb vn) t → t / 64 < x ∨ (t / 64 = x ∧ t % 64 < s) → land (t % 64) wo = 0 → (hC gb gt vo vn) t a = (hC gb gt vo vn) t b)) → (p2 vn - s).toNat < fu → V 0 0 23 [(m, eO 8 [.int (iI vb), .ref aBath, .int (iI vn), .ref aBather, .int (iI vo), .int (iI vm), .ref aMorn, .int (iI vs), .ref aText, .int (iI vt), .int (iI vf), .int (iI va), .long (lI vsd), .int (iI vw), .int (iI vu), .int (iI vna), .int (iI vrb), .ref aRB, .int (iI vrn), .ref aRN, .int (iI vro), .ref aLow, .ref aHigh, .int (iI (pI (vch = true))), .ref aNeeds, .ref aLikes, .ref aHts, .int (iI vtr), .int (iI vbk), .ref aBook, .ref aImg, .ref aKept]), (aBath, eI G 8 gb), (aBather, eI G 24 gt)] [some (.ref m), some (.int (iI a)), some (.int (iI b)), some (.int (iI wo)), some (.int (iI (pI (pd2 = true)))), some (.int (iI x)), some (.int (iI s))] [] := by
            intro fu
            induction fu with
            | zero => intro s pd2 hs hpd2 hm; exact absurd hm (Nat.not_lt_zero _)
            | succ fu ih23 =>
              intro s pd2 hs hpd2 hm23
              refine M.iload (pc := 23) (i := 6) rfl dX8_isParted_23 ?_
              refine M.iconst (pc := 25) dX8_isParted_25 ?_
              refine M.aloadn (pc := 26) 0 rfl rfl dX8_isParted_26 ?_
              refine M.getf (pc := 27) fg_X8_67 0 rfl rfl dX8_isParted_27 ?_
              refine M.ishl (pc := 30) (bit_shl1 hn.1 (by omega)) dX8_isParted_30 ?_
              refine M.icmp_ge (pc := 31) (tgt := 80) dX8_isParted_31 (by decide) (by omega) (by omega) (fun c31 => ?_) (fun c31 => ?_)
              · refine M.iinc (pc := 80) (i := 5) rfl rfl dX8_isParted_80 ?_
                dsimp only [List.set_cons_zero, List.set_cons_succ]
                refine M.goto (pc := 83) (tgt := 6) dX8_isParted_83 (by decide) ?_
                refine M.forget 6 ?_
                dsimp only [List.set_cons_zero, List.set_cons_succ]
                exact ih6  (by first | assumption | omega) (by first | exact hpd2.imp id (fun z => ⟨z.1, fun t ht h h2 => z.2 t ht (by have := ht.2.2; omega) h2⟩) | exact hpd2.elim (fun z => Or.inl z) (fun z => absurd (z.1.symm.trans c36) (by decide))) (by omega)
              · refine M.iload (pc := 34) (i := 4) rfl dX8_isParted_34 ?_
                refine M.if_neP (pc := 36) (tgt := 80) dX8_isParted_36 (by decide) (fun c36 => ?_) (fun c36 => ?_)
                · refine M.iinc (pc := 80) (i := 5) rfl rfl dX8_isParted_80 ?_
                  dsimp only [List.set_cons_zero, List.set_cons_succ]
                  refine M.goto (pc := 83) (tgt := 6) dX8_isParted_83 (by decide) ?_
                  refine M.forget 6 ?_
                  dsimp only [List.set_cons_zero, List.set_cons_succ]
                  exact ih6  (by first | assumption | omega) (by first | exact hpd2.imp id (fun z => ⟨z.1, fun t ht h h2 => z.2 t ht (by have := ht.2.2; omega) h2⟩) | exact hpd2.elim (fun z => Or.inl z) (fun z => absurd (z.1.symm.trans c36) (by decide))) (by omega)
                · have L72 : ∀ {pd3 : Bool}, ((pd3 = true ∧ PTD (VTt vb vn) (hC gb gt vo vn) wo a b) ∨ (pd3 = false ∧ (land s wo = 0 → (hC gb gt vo vn) (x * 64 + s) a = (hC gb gt vo vn) (x * 64 + s) b))) → V 0 0 72 [(m, eO 8 [.int (iI vb), .ref aBath, .int (iI vn), .ref aBather, .int (iI vo), .int (iI vm), .ref aMorn, .int (iI vs), .ref aText, .int (iI vt), .int (iI vf), .int (iI va), .long (lI vsd), .int (iI vw), .int (iI vu), .int (iI vna), .int (iI vrb), .ref aRB, .int (iI vrn), .ref aRN, .int (iI vro), .ref aLow, .ref aHigh, .int (iI (pI (vch = true))), .ref aNeeds, .ref aLikes, .ref aHts, .int (iI vtr), .int (iI vbk), .ref aBook, .ref aImg, .ref aKept]), (aBath, eI G 8 gb), (aBather, eI G 24 gt)] [some (.ref m), some (.int (iI a)), some (.int (iI b)), some (.int (iI wo)), none, some (.int (iI x)), some (.int (iI s))] [.int (iI (pI (pd3 = true)))] := by
                    intro pd3 hpd3
                    refine M.istore (pc := 72) (i := 4) (Nat.le_of_ble_eq_true rfl) rfl dX8_isParted_72 ?_
                    dsimp only [List.set_cons_zero, List.set_cons_succ]
                    refine M.iinc (pc := 74) (i := 6) rfl rfl dX8_isParted_74 ?_
                    dsimp only [List.set_cons_zero, List.set_cons_succ]
                    refine M.goto (pc := 77) (tgt := 23) dX8_isParted_77 (by decide) ?_
                    exact ih23  (by first | assumption | omega) (by rcases hpd3 with z | ⟨z1, z2⟩; exact Or.inl z; exact hpd2.elim (fun w => absurd w.1 c36) (fun w => Or.inr ⟨z1, fun t ht h h2 => by rcases (by omega : (t / 64 < x ∨ (t / 64 = x ∧ t % 64 < s)) ∨ (t / 64 = x ∧ t % 64 = s)) with q | q; exact w.2 t ht q h2; rw [show t = x * 64 + s by omega]; exact z2 (by rw [← q.2]; exact h2)⟩)) (by omega)
                  refine M.iload (pc := 39) (i := 6) rfl dX8_isParted_39 ?_
                  refine M.iloadn (pc := 41) 3 rfl rfl dX8_isParted_41 ?_
                  refine M.iand (pc := 42) (land_ok (by omega) hw.1) dX8_isParted_42 ?_
                  refine M.if_ne (pc := 43) (tgt := 71) dX8_isParted_43 (by decide) (by (have := land_b (a := s) (b := wo) (by omega) hw.1); omega) (fun c43 => ?_) (fun c43 => ?_)
                  · refine M.iconst (pc := 71) dX8_isParted_71 ?_
                    refine M.forget 4 ?_
                    dsimp only [List.set_cons_zero, List.set_cons_succ]
                    exact L72 (pd3 := false) (by exact Or.inr ⟨rfl, fun z => by first | exact absurd z c43 | (rw [hC_bs (by omega) (by omega), hC_bs (by omega) (by omega)]; exact c64)⟩)
                  · have hx : 0 ≤ x ∧ x < vb := by omega
                    have hcs : ∀ c, 0 ≤ caseS gt vo vn.toNat s c ∧ caseS gt vo vn.toNat s c ≤ 11988 := fun c => by
                      have := sumT_b (f := caseF gt vo c) (S := s) (A := 0) (B := 1998) (by omega) (by omega) vn.toNat (fun k hk _ => by
                        have := (hT k (by omega) (by omega)).2.2.1
                        unfold caseF
                        split
                        · omega
                        · split <;> omega)
                      unfold caseS
                      omega
                    refine M.aloadn (pc := 46) 0 rfl rfl dX8_isParted_46 ?_
                    refine M.iload (pc := 47) (i := 5) rfl dX8_isParted_47 ?_
                    refine M.iload (pc := 49) (i := 6) rfl dX8_isParted_49 ?_
                    refine M.iloadn (pc := 51) 1 rfl rfl dX8_isParted_51 ?_
                    refine M.pV (pc := 52) (c_X8_tellsOf  (by first | assumption | omega) (by first | assumption | omega) (by exact hx) (by first | assumption | omega) (by first | assumption | omega) (by omega) (by first | assumption | omega) (by omega)) mv_X8_258 [0, 1, 2] rfl rfl rfl 0 rfl rfl rfl rfl (Nat.le_of_ble_eq_true rfl) rfl ⟨(Nat.le_of_ble_eq_true rfl), (Nat.le_of_ble_eq_true rfl)⟩ ⟨(Nat.le_of_ble_eq_true rfl), (Nat.le_of_ble_eq_true rfl)⟩ rfl dX8_isParted_52 ?_
                    refine M.aloadn (pc := 55) 0 rfl rfl dX8_isParted_55 ?_
                    refine M.iload (pc := 56) (i := 5) rfl dX8_isParted_56 ?_
                    refine M.iload (pc := 58) (i := 6) rfl dX8_isParted_58 ?_
                    refine M.iloadn (pc := 60) 2 rfl rfl dX8_isParted_60 ?_
                    refine M.pV (pc := 61) (c_X8_tellsOf  (by first | assumption | omega) (by first | assumption | omega) (by exact hx) (by first | assumption | omega) (by first | assumption | omega) (by omega) (by first | assumption | omega) (by omega)) mv_X8_258 [0, 1, 2] rfl rfl rfl 0 rfl rfl rfl rfl (Nat.le_of_ble_eq_true rfl) rfl ⟨(Nat.le_of_ble_eq_true rfl), (Nat.le_of_ble_eq_true rfl)⟩ ⟨(Nat.le_of_ble_eq_true rfl), (Nat.le_of_ble_eq_true rfl)⟩ rfl dX8_isParted_61 ?_
                    refine M.icmp_eq (pc := 64) (tgt := 71) dX8_isParted_64 (by decide) (by (have := hHei_v (s := caseS gt vo vn.toNat s a) (B := 11988) hV hx.1 hx.2 (by omega : (0 : Int) ≤ 0) (hcs a).1 (hcs a).2); omega) (by (have := hHei_v (s := caseS gt vo vn.toNat s b) (B := 11988) hV hx.1 hx.2 (by omega : (0 : Int) ≤ 0) (hcs b).1 (hcs b).2); omega) (fun c64 => ?_) (fun c64 => ?_)
                    · refine M.iconst (pc := 71) dX8_isParted_71 ?_
                      refine M.forget 4 ?_
                      dsimp only [List.set_cons_zero, List.set_cons_succ]
                      exact L72 (pd3 := false) (by exact Or.inr ⟨rfl, fun z => by first | exact absurd z c43 | (rw [hC_bs (by omega) (by omega), hC_bs (by omega) (by omega)]; exact c64)⟩)
                    · refine M.iconst (pc := 67) dX8_isParted_67 ?_
                      refine M.goto (pc := 68) (tgt := 72) dX8_isParted_68 (by decide) ?_
                      refine M.forget 4 ?_
                      dsimp only [List.set_cons_zero, List.set_cons_succ]
                      exact L72 (pd3 := true) (by exact Or.inl ⟨rfl, x * 64 + s, ⟨⟨by omega, by omega⟩, by omega, by omega⟩, by rw [show (x * 64 + s) % 64 = s by omega]; exact c43, by rw [hC_bs (by omega) (by omega), hC_bs (by omega) (by omega)]; exact c64⟩)
          exact L23 _  (by first | assumption | omega) (by exact hpd.elim (fun z => absurd z.1 c17) (fun z => Or.inr ⟨z.1, fun t ht h h2 => h.elim (fun w => z.2 t ht w h2) (fun w => hC_0 _ _ _ _ (by omega) _ _)⟩)) (Nat.lt_succ_self _)
  exact L6 _ (pd := false) (by first | assumption | omega) (by exact Or.inr ⟨rfl, fun t ht h => absurd h (by have := ht.1; omega)⟩) (Nat.lt_succ_self _)
set_option maxHeartbeats 4000000 in
set_option maxRecDepth 100000 in
theorem c_X8_allCases {l : Launch} {G : GT} {m aBath aBather aMorn aText aRB aRN aLow aHigh aNeeds aLikes aHts aBook aImg aKept : Nat} {vb vn vo vm vs vt vf va vw vu vna vrb vrn vro vtr vbk vsd : Int} {vch : Bool} (hn : 0 ≤ vn ∧ vn ≤ 6) : ConF l G yX8_allCases cX8_allCases 3 (some .int) { frames := 2, cells := 0, slots := 0, locals := 46 } [.ref m] [(m, eO 8 [.int (iI vb), .ref aBath, .int (iI vn), .ref aBather, .int (iI vo), .int (iI vm), .ref aMorn, .int (iI vs), .ref aText, .int (iI vt), .int (iI vf), .int (iI va), .long (lI vsd), .int (iI vw), .int (iI vu), .int (iI vna), .int (iI vrb), .ref aRB, .int (iI vrn), .ref aRN, .int (iI vro), .ref aLow, .ref aHigh, .int (iI (pI (vch = true))), .ref aNeeds, .ref aLikes, .ref aHts, .int (iI vtr), .int (iI vbk), .ref aBook, .ref aImg, .ref aKept])] (some (.int (iI (cm (prB vn) 13)))) := by
  refine Con.mk (by decide +kernel) [some (.ref m), none, none] rfl (Nat.le_of_ble_eq_true rfl) rfl ?_
  intro V M EI EL EV EA
  refine M.iconst (pc := 0) dX8_allCases_0 ?_
  refine M.istoren (pc := 1) 1 rfl (Nat.le_of_ble_eq_true rfl) rfl dX8_allCases_1 ?_
  dsimp only [List.set_cons_zero, List.set_cons_succ]
  refine M.iconst (pc := 2) dX8_allCases_2 ?_
  refine M.istoren (pc := 3) 2 rfl (Nat.le_of_ble_eq_true rfl) rfl dX8_allCases_3 ?_
  dsimp only [List.set_cons_zero, List.set_cons_succ]
  have L4 : ∀ (fu : Nat) {k s : Int}, (0 ≤ k ∧ k ≤ 13) → (s = cm (prB vn) k.toNat) → (13 - k).toNat < fu → V 0 0 4 [(m, eO 8 [.int (iI vb), .ref aBath, .int (iI vn), .ref aBather, .int (iI vo), .int (iI vm), .ref aMorn, .int (iI vs), .ref aText, .int (iI vt), .int (iI vf), .int (iI va), .long (lI vsd), .int (iI vw), .int (iI vu), .int (iI vna), .int (iI vrb), .ref aRB, .int (iI vrn), .ref aRN, .int (iI vro), .ref aLow, .ref aHigh, .int (iI (pI (vch = true))), .ref aNeeds, .ref aLikes, .ref aHts, .int (iI vtr), .int (iI vbk), .ref aBook, .ref aImg, .ref aKept])] [some (.ref m), some (.int (iI s)), some (.int (iI k))] [] := by
    intro fu
    induction fu with
    | zero => intro k s hk hs2 hm; exact absurd hm (Nat.not_lt_zero _)
    | succ fu ih4 =>
      intro k s hk hs2 hm4
      refine M.iloadn (pc := 4) 2 rfl rfl dX8_allCases_4 ?_
      refine M.bipush (pc := 5) (by decide +kernel) dX8_allCases_5 ?_
      refine M.icmp_ge (pc := 7) (tgt := 34) dX8_allCases_7 (by decide) (by omega) (by omega) (fun c7 => ?_) (fun c7 => ?_)
      · refine M.iloadn (pc := 34) 1 rfl rfl dX8_allCases_34 ?_
        exact EI () _ _ _ _ dX8_allCases_35 (Or.inl rfl) (eqI (by rw [hs2, show k.toNat = 13 by omega])) rfl trivial
      · refine M.iloadn (pc := 10) 1 rfl rfl dX8_allCases_10 ?_
        refine M.aloadn (pc := 11) 0 rfl rfl dX8_allCases_11 ?_
        refine M.iloadn (pc := 12) 2 rfl rfl dX8_allCases_12 ?_
        refine M.pV (pc := 13) (c_X8_isCase  (by first | assumption | omega) (by first | assumption | omega)) mv_X8_255 [0] rfl rfl rfl 0 rfl rfl rfl rfl (Nat.le_of_ble_eq_true rfl) rfl ⟨(Nat.le_of_ble_eq_true rfl), (Nat.le_of_ble_eq_true rfl)⟩ ⟨(Nat.le_of_ble_eq_true rfl), (Nat.le_of_ble_eq_true rfl)⟩ rfl dX8_allCases_13 ?_
        refine M.if_eqP (pc := 16) (tgt := 25) dX8_allCases_16 (by decide) (fun c16 => ?_) (fun c16 => ?_)
        · refine M.iconst (pc := 25) dX8_allCases_25 ?_
          refine M.ior (pc := 26) ((by first | exact cm_o1 hs2 hk.1 (by unfold prB; exact decide_eq_true c16) | exact cm_o0 hs2 hk.1 (by unfold prB; exact decide_eq_false c16))) dX8_allCases_26 ?_
          refine M.istoren (pc := 27) 1 rfl (Nat.le_of_ble_eq_true rfl) rfl dX8_allCases_27 ?_
          dsimp only [List.set_cons_zero, List.set_cons_succ]
          refine M.iinc (pc := 28) (i := 2) rfl rfl dX8_allCases_28 ?_
          dsimp only [List.set_cons_zero, List.set_cons_succ]
          refine M.goto (pc := 31) (tgt := 4) dX8_allCases_31 (by decide) ?_
          exact ih4  (by first | assumption | omega) (by rfl) (by omega)
        · refine M.iconst (pc := 19) dX8_allCases_19 ?_
          refine M.iloadn (pc := 20) 2 rfl rfl dX8_allCases_20 ?_
          refine M.ishl (pc := 21) (bit_shl1 hk.1 (by omega)) dX8_allCases_21 ?_
          refine M.goto (pc := 22) (tgt := 26) dX8_allCases_22 (by decide) ?_
          refine M.ior (pc := 26) ((by first | exact cm_o1 hs2 hk.1 (by unfold prB; exact decide_eq_true c16) | exact cm_o0 hs2 hk.1 (by unfold prB; exact decide_eq_false c16))) dX8_allCases_26 ?_
          refine M.istoren (pc := 27) 1 rfl (Nat.le_of_ble_eq_true rfl) rfl dX8_allCases_27 ?_
          dsimp only [List.set_cons_zero, List.set_cons_succ]
          refine M.iinc (pc := 28) (i := 2) rfl rfl dX8_allCases_28 ?_
          dsimp only [List.set_cons_zero, List.set_cons_succ]
          refine M.goto (pc := 31) (tgt := 4) dX8_allCases_31 (by decide) ?_
          exact ih4  (by first | assumption | omega) (by rfl) (by omega)
  exact L4 _  (by first | assumption | omega) (by rfl) (Nat.lt_succ_self _)
set_option maxHeartbeats 4000000 in
set_option maxRecDepth 100000 in
theorem c_X8_alikeOf {l : Launch} {G : GT} {m aBath aBather aMorn aText aRB aRN aLow aHigh aNeeds aLikes aHts aBook aImg aKept : Nat} {vb vn vo vm vs vt vf va vw vu vna vrb vrn vro vtr vbk vsd : Int} {vch : Bool} {gb : Int → Int} {gt : Int → Int} {a : Int} (hn : 0 ≤ vn ∧ vn ≤ 6) (hnb : 0 ≤ vb ∧ vb ≤ 2) (hV : HV gb vb) (hT : HVT gt vn) (ho : 0 ≤ vo ∧ vo ≤ 999) (ha : prB vn a = true ∧ 0 ≤ a ∧ a < 13) : ConF l G yX8_alikeOf cX8_alikeOf 4 (some .int) { frames := 4, cells := 0, slots := 0, locals := 96 } [.ref m, .int (iI a)] [(m, eO 8 [.int (iI vb), .ref aBath, .int (iI vn), .ref aBather, .int (iI vo), .int (iI vm), .ref aMorn, .int (iI vs), .ref aText, .int (iI vt), .int (iI vf), .int (iI va), .long (lI vsd), .int (iI vw), .int (iI vu), .int (iI vna), .int (iI vrb), .ref aRB, .int (iI vrn), .ref aRN, .int (iI vro), .ref aLow, .ref aHigh, .int (iI (pI (vch = true))), .ref aNeeds, .ref aLikes, .ref aHts, .int (iI vtr), .int (iI vbk), .ref aBook, .ref aImg, .ref aKept]), (aBath, eI G 8 gb), (aBather, eI G 24 gt)] (some (.int (iI (alM (VTt vb vn) (hC gb gt vo vn) (prB vn) a)))) := by
  refine Con.mk (by decide +kernel) [some (.ref m), some (.int (iI a)), none, none] rfl (Nat.le_of_ble_eq_true rfl) rfl ?_
  intro V M EI EL EV EA
  refine M.iconst (pc := 0) dX8_alikeOf_0 ?_
  refine M.istoren (pc := 1) 2 rfl (Nat.le_of_ble_eq_true rfl) rfl dX8_alikeOf_1 ?_
  dsimp only [List.set_cons_zero, List.set_cons_succ]
  refine M.iconst (pc := 2) dX8_alikeOf_2 ?_
  refine M.istoren (pc := 3) 3 rfl (Nat.le_of_ble_eq_true rfl) rfl dX8_alikeOf_3 ?_
  dsimp only [List.set_cons_zero, List.set_cons_succ]
  have L4 : ∀ (fu : Nat) {k s : Int}, (0 ≤ k ∧ k ≤ 13) → (s = cm (alB (VTt vb vn) (hC gb gt vo vn) (prB vn) a) k.toNat) → (13 - k).toNat < fu → V 0 0 4 [(m, eO 8 [.int (iI vb), .ref aBath, .int (iI vn), .ref aBather, .int (iI vo), .int (iI vm), .ref aMorn, .int (iI vs), .ref aText, .int (iI vt), .int (iI vf), .int (iI va), .long (lI vsd), .int (iI vw), .int (iI vu), .int (iI vna), .int (iI vrb), .ref aRB, .int (iI vrn), .ref aRN, .int (iI vro), .ref aLow, .ref aHigh, .int (iI (pI (vch = true))), .ref aNeeds, .ref aLikes, .ref aHts, .int (iI vtr), .int (iI vbk), .ref aBook, .ref aImg, .ref aKept]), (aBath, eI G 8 gb), (aBather, eI G 24 gt)] [some (.ref m), some (.int (iI a)), some (.int (iI s)), some (.int (iI k))] [] := by
    intro fu
    induction fu with
    | zero => intro k s hk hs2 hm; exact absurd hm (Nat.not_lt_zero _)
    | succ fu ih4 =>
      intro k s hk hs2 hm4
      refine M.iloadn (pc := 4) 3 rfl rfl dX8_alikeOf_4 ?_
      refine M.bipush (pc := 5) (by decide +kernel) dX8_alikeOf_5 ?_
      refine M.icmp_ge (pc := 7) (tgt := 44) dX8_alikeOf_7 (by decide) (by omega) (by omega) (fun c7 => ?_) (fun c7 => ?_)
      · refine M.iloadn (pc := 44) 2 rfl rfl dX8_alikeOf_44 ?_
        exact EI () _ _ _ _ dX8_alikeOf_45 (Or.inl rfl) (eqI (by rw [hs2, show k.toNat = 13 by omega]; rfl)) rfl trivial
      · refine M.iloadn (pc := 10) 2 rfl rfl dX8_alikeOf_10 ?_
        refine M.aloadn (pc := 11) 0 rfl rfl dX8_alikeOf_11 ?_
        refine M.iloadn (pc := 12) 3 rfl rfl dX8_alikeOf_12 ?_
        refine M.pV (pc := 13) (c_X8_isCase  (by first | assumption | omega) (by first | assumption | omega)) mv_X8_255 [0] rfl rfl rfl 0 rfl rfl rfl rfl (Nat.le_of_ble_eq_true rfl) rfl ⟨(Nat.le_of_ble_eq_true rfl), (Nat.le_of_ble_eq_true rfl)⟩ ⟨(Nat.le_of_ble_eq_true rfl), (Nat.le_of_ble_eq_true rfl)⟩ rfl dX8_alikeOf_13 ?_
        refine M.if_eqP (pc := 16) (tgt := 35) dX8_alikeOf_16 (by decide) (fun c16 => ?_) (fun c16 => ?_)
        · refine M.iconst (pc := 35) dX8_alikeOf_35 ?_
          refine M.ior (pc := 36) ((by
    first
      | exact cm_o1 (p := alB (VTt vb vn) (hC gb gt vo vn) (prB vn) a) hs2 hk.1 (alB_t.mpr ⟨decide_eq_true c16, fun t ht => Classical.byContradiction (fun w => c26 (hu23.mpr ⟨t, ht, by have := land_b (a := t % 64) (b := 0) (by omega) (by omega); omega, w⟩))⟩)
      | exact cm_o0 (p := alB (VTt vb vn) (hC gb gt vo vn) (prB vn) a) hs2 hk.1 (Bool.eq_false_iff.mpr (fun z => by obtain ⟨t, h1, _, h3⟩ := hu23.mp c26; exact h3 ((alB_t.mp z).2 t h1)))
      | exact cm_o0 (p := alB (VTt vb vn) (hC gb gt vo vn) (prB vn) a) hs2 hk.1 (Bool.eq_false_iff.mpr (fun z => c16 (of_decide_eq_true (alB_t.mp z).1))))) dX8_alikeOf_36 ?_
          refine M.istoren (pc := 37) 2 rfl (Nat.le_of_ble_eq_true rfl) rfl dX8_alikeOf_37 ?_
          dsimp only [List.set_cons_zero, List.set_cons_succ]
          refine M.iinc (pc := 38) (i := 3) rfl rfl dX8_alikeOf_38 ?_
          dsimp only [List.set_cons_zero, List.set_cons_succ]
          refine M.goto (pc := 41) (tgt := 4) dX8_alikeOf_41 (by decide) ?_
          exact ih4  (by first | assumption | omega) (by rfl) (by omega)
        · refine M.aloadn (pc := 19) 0 rfl rfl dX8_alikeOf_19 ?_
          refine M.iloadn (pc := 20) 1 rfl rfl dX8_alikeOf_20 ?_
          refine M.iloadn (pc := 21) 3 rfl rfl dX8_alikeOf_21 ?_
          refine M.iconst (pc := 22) dX8_alikeOf_22 ?_
          refine M.mV (pc := 23) (c_X8_isParted  (by first | assumption | omega) (by first | assumption | omega) (by first | assumption | omega) (by first | assumption | omega) (by first | assumption | omega) (by first | assumption | omega) (by exact ⟨decide_eq_true c16, hk.1, by omega⟩) (by first | assumption | omega)) mv_X8_261 [0, 1, 2] rfl rfl rfl 0 rfl rfl rfl rfl (Nat.le_of_ble_eq_true rfl) rfl ⟨(Nat.le_of_ble_eq_true rfl), (Nat.le_of_ble_eq_true rfl)⟩ ⟨(Nat.le_of_ble_eq_true rfl), (Nat.le_of_ble_eq_true rfl)⟩ rfl (fun _ => rfl) dX8_alikeOf_23 (fun u23 hu23 => ?_)
          dsimp only [putL, List.set_cons_zero, List.set_cons_succ, Option.toList, List.cons_append, List.nil_append] at hu23 ⊢
          refine M.if_neP (pc := 26) (tgt := 35) dX8_alikeOf_26 (by decide) (fun c26 => ?_) (fun c26 => ?_)
          · refine M.iconst (pc := 35) dX8_alikeOf_35 ?_
            refine M.ior (pc := 36) ((by
    first
      | exact cm_o1 (p := alB (VTt vb vn) (hC gb gt vo vn) (prB vn) a) hs2 hk.1 (alB_t.mpr ⟨decide_eq_true c16, fun t ht => Classical.byContradiction (fun w => c26 (hu23.mpr ⟨t, ht, by have := land_b (a := t % 64) (b := 0) (by omega) (by omega); omega, w⟩))⟩)
      | exact cm_o0 (p := alB (VTt vb vn) (hC gb gt vo vn) (prB vn) a) hs2 hk.1 (Bool.eq_false_iff.mpr (fun z => by obtain ⟨t, h1, _, h3⟩ := hu23.mp c26; exact h3 ((alB_t.mp z).2 t h1)))
      | exact cm_o0 (p := alB (VTt vb vn) (hC gb gt vo vn) (prB vn) a) hs2 hk.1 (Bool.eq_false_iff.mpr (fun z => c16 (of_decide_eq_true (alB_t.mp z).1))))) dX8_alikeOf_36 ?_
            refine M.istoren (pc := 37) 2 rfl (Nat.le_of_ble_eq_true rfl) rfl dX8_alikeOf_37 ?_
            dsimp only [List.set_cons_zero, List.set_cons_succ]
            refine M.iinc (pc := 38) (i := 3) rfl rfl dX8_alikeOf_38 ?_
            dsimp only [List.set_cons_zero, List.set_cons_succ]
            refine M.goto (pc := 41) (tgt := 4) dX8_alikeOf_41 (by decide) ?_
            exact ih4  (by first | assumption | omega) (by rfl) (by omega)
          · 
            refine M.iconst (pc := 29) dX8_alikeOf_29 ?_
            refine M.iloadn (pc := 30) 3 rfl rfl dX8_alikeOf_30 ?_
            refine M.ishl (pc := 31) (bit_shl1 hk.1 (by omega)) dX8_alikeOf_31 ?_
            refine M.goto (pc := 32) (tgt := 36) dX8_alikeOf_32 (by decide) ?_
            refine M.ior (pc := 36) ((by
    first
      | exact cm_o1 (p := alB (VTt vb vn) (hC gb gt vo vn) (prB vn) a) hs2 hk.1 (alB_t.mpr ⟨decide_eq_true c16, fun t ht => Classical.byContradiction (fun w => c26 (hu23.mpr ⟨t, ht, by have := land_b (a := t % 64) (b := 0) (by omega) (by omega); omega, w⟩))⟩)
      | exact cm_o0 (p := alB (VTt vb vn) (hC gb gt vo vn) (prB vn) a) hs2 hk.1 (Bool.eq_false_iff.mpr (fun z => by obtain ⟨t, h1, _, h3⟩ := hu23.mp c26; exact h3 ((alB_t.mp z).2 t h1)))
      | exact cm_o0 (p := alB (VTt vb vn) (hC gb gt vo vn) (prB vn) a) hs2 hk.1 (Bool.eq_false_iff.mpr (fun z => c16 (of_decide_eq_true (alB_t.mp z).1))))) dX8_alikeOf_36 ?_
            refine M.istoren (pc := 37) 2 rfl (Nat.le_of_ble_eq_true rfl) rfl dX8_alikeOf_37 ?_
            dsimp only [List.set_cons_zero, List.set_cons_succ]
            refine M.iinc (pc := 38) (i := 3) rfl rfl dX8_alikeOf_38 ?_
            dsimp only [List.set_cons_zero, List.set_cons_succ]
            refine M.goto (pc := 41) (tgt := 4) dX8_alikeOf_41 (by decide) ?_
            exact ih4  (by first | assumption | omega) (by rfl) (by omega)
  exact L4 _  (by first | assumption | omega) (by rfl) (Nat.lt_succ_self _)
set_option maxHeartbeats 4000000 in
set_option maxRecDepth 100000 in
theorem c_X8_findTries {l : Launch} {G : GT} {m aBath aBather aMorn aText aRB aRN aLow aHigh aNeeds aLikes aHts aBook aImg aKept : Nat} {vb vn vo vm vs vt vf va vw vu vna vrb vrn vro vtr vbk vsd : Int} {vch : Bool} {gb : Int → Int} {gt : Int → Int} {gk : Int → Int} {gq : Int → Int} (hn : 0 ≤ vn ∧ vn ≤ 6) (hnb : 0 ≤ vb ∧ vb ≤ 2) (hV : HV gb vb) (hT : HVT gt vn) (ho : 0 ≤ vo ∧ vo ≤ 999) : Con l G yX8_findTries cX8_findTries 4 none { frames := 5, cells := 0, slots := 0, locals := 119 } [.ref m] [(m, eO 8 [.int (iI vb), .ref aBath, .int (iI vn), .ref aBather, .int (iI vo), .int (iI vm), .ref aMorn, .int (iI vs), .ref aText, .int (iI vt), .int (iI vf), .int (iI va), .long (lI vsd), .int (iI vw), .int (iI vu), .int (iI vna), .int (iI vrb), .ref aRB, .int (iI vrn), .ref aRN, .int (iI vro), .ref aLow, .ref aHigh, .int (iI (pI (vch = true))), .ref aNeeds, .ref aLikes, .ref aHts, .int (iI vtr), .int (iI vbk), .ref aBook, .ref aImg, .ref aKept]), (aBath, eI G 8 gb), (aBather, eI G 24 gt), (aLikes, eI G 13 gk), (aHts, eI G 1638 gq)] (S := Int × (Int → Int) × (Int → Int)) (fun _ => none) (fun u => [(m, eO 8 [.int (iI vb), .ref aBath, .int (iI vn), .ref aBather, .int (iI vo), .int (iI vm), .ref aMorn, .int (iI vs), .ref aText, .int (iI vt), .int (iI vf), .int (iI va), .long (lI vsd), .int (iI vw), .int (iI vu), .int (iI vna), .int (iI vrb), .ref aRB, .int (iI vrn), .ref aRN, .int (iI vro), .ref aLow, .ref aHigh, .int (iI (pI (vch = true))), .ref aNeeds, .ref aLikes, .ref aHts, .int (iI u.1), .int (iI vbk), .ref aBook, .ref aImg, .ref aKept]), (aBath, eI G 8 gb), (aBather, eI G 24 gt), (aLikes, eI G 13 u.2.1), (aHts, eI G 1638 u.2.2)]) (fun u => u.1 = (if vb = 0 then 0 else tix vn (vb - 1) (p2 vn)) ∧ HQ vb vn (hC gb gt vo vn) (prB vn) u.2.2 u.1 ∧ LQ (VTt vb vn) (hC gb gt vo vn) (prB vn) u.2.1 13) := by
  refine Con.mk (by decide +kernel) [some (.ref m), none, none, none] rfl (Nat.le_of_ble_eq_true rfl) rfl ?_
  intro V M EI EL EV EA
  have hp6 := p2_6 hn.2
  have hp1 := p2_b (by omega : vn ≤ 13)
  refine M.aloadn (pc := 0) 0 rfl rfl dX8_findTries_0 ?_
  refine M.iconst (pc := 1) dX8_findTries_1 ?_
  refine M.putf (pc := 2) fp_X8_268 0 rfl rfl rfl (Nat.le_of_ble_eq_true rfl) dX8_findTries_2 ?_
  dsimp only [List.set_cons_zero, List.set_cons_succ]
  refine M.iconst (pc := 5) dX8_findTries_5 ?_
  refine M.istoren (pc := 6) 1 rfl (Nat.le_of_ble_eq_true rfl) rfl dX8_findTries_6 ?_
  dsimp only [List.set_cons_zero, List.set_cons_succ]
  have L7 : ∀ (fu : Nat) {b T : Int} {q : Int → Int}, (0 ≤ b ∧ b ≤ vb) → (T = (if b = 0 then 0 else tix vn (b - 1) (p2 vn))) → (HQ vb vn (hC gb gt vo vn) (prB vn) q T) → (vb - b).toNat < fu → V 0 0 7 [(m, eO 8 [.int (iI vb), .ref aBath, .int (iI vn), .ref aBather, .int (iI vo), .int (iI vm), .ref aMorn, .int (iI vs), .ref aText, .int (iI vt), .int (iI vf), .int (iI va), .long (lI vsd), .int (iI vw), .int (iI vu), .int (iI vna), .int (iI vrb), .ref aRB, .int (iI vrn), .ref aRN, .int (iI vro), .ref aLow, .ref aHigh, .int (iI (pI (vch = true))), .ref aNeeds, .ref aLikes, .ref aHts, .int (iI T), .int (iI vbk), .ref aBook, .ref aImg, .ref aKept]), (aBath, eI G 8 gb), (aBather, eI G 24 gt), (aLikes, eI G 13 gk), (aHts, eI G 1638 q)] [some (.ref m), some (.int (iI b)), none, none] [] := by
    intro fu
    induction fu with
    | zero => intro b T q hb hTT hq hm; exact absurd hm (Nat.not_lt_zero _)
    | succ fu ih7 =>
      intro b T q hb hTT hq hm7
      refine M.iloadn (pc := 7) 1 rfl rfl dX8_findTries_7 ?_
      refine M.aloadn (pc := 8) 0 rfl rfl dX8_findTries_8 ?_
      refine M.getf (pc := 9) fg_X8_60 0 rfl rfl dX8_findTries_9 ?_
      refine M.icmp_ge (pc := 12) (tgt := 96) dX8_findTries_12 (by decide) (by omega) (by omega) (fun c12 => ?_) (fun c12 => ?_)
      · refine M.iconst (pc := 96) dX8_findTries_96 ?_
        refine M.istoren (pc := 97) 1 rfl (Nat.le_of_ble_eq_true rfl) rfl dX8_findTries_97 ?_
        dsimp only [List.set_cons_zero, List.set_cons_succ]
        have L98 : ∀ (fu : Nat) {w : Int} {k2 : Int → Int}, (0 ≤ w ∧ w ≤ 13) → (LQ (VTt vb vn) (hC gb gt vo vn) (prB vn) k2 w) → (13 - w).toNat < fu → V 0 0 98 [(m, eO 8 [.int (iI vb), .ref aBath, .int (iI vn), .ref aBather, .int (iI vo), .int (iI vm), .ref aMorn, .int (iI vs), .ref aText, .int (iI vt), .int (iI vf), .int (iI va), .long (lI vsd), .int (iI vw), .int (iI vu), .int (iI vna), .int (iI vrb), .ref aRB, .int (iI vrn), .ref aRN, .int (iI vro), .ref aLow, .ref aHigh, .int (iI (pI (vch = true))), .ref aNeeds, .ref aLikes, .ref aHts, .int (iI T), .int (iI vbk), .ref aBook, .ref aImg, .ref aKept]), (aBath, eI G 8 gb), (aBather, eI G 24 gt), (aLikes, eI G 13 k2), (aHts, eI G 1638 q)] [some (.ref m), some (.int (iI w)), none, none] [] := by
          intro fu
          induction fu with
          | zero => intro w k2 hw hk2 hm; exact absurd hm (Nat.not_lt_zero _)
          | succ fu ih98 =>
            intro w k2 hw hk2 hm98
            refine M.iloadn (pc := 98) 1 rfl rfl dX8_findTries_98 ?_
            refine M.bipush (pc := 99) (by decide +kernel) dX8_findTries_99 ?_
            refine M.icmp_ge (pc := 101) (tgt := 133) dX8_findTries_101 (by decide) (by omega) (by omega) (fun c101 => ?_) (fun c101 => ?_)
            · exact EV (_, _, _) _ _ _ dX8_findTries_133 rfl (rfl) (rfl) (⟨by rw [hTT, show b = vb by omega], hq, fun c h0 h1 => hk2 c h0 (by omega)⟩)
            · refine M.aloadn (pc := 104) 0 rfl rfl dX8_findTries_104 ?_
              refine M.getf (pc := 105) fg_X8_44 0 rfl rfl dX8_findTries_105 ?_
              refine M.iloadn (pc := 108) 1 rfl rfl dX8_findTries_108 ?_
              refine M.aloadn (pc := 109) 0 rfl rfl dX8_findTries_109 ?_
              have L126 : ∀ {v : Int}, (v = if prB vn w = true then alM (VTt vb vn) (hC gb gt vo vn) (prB vn) w else 0) → V 0 0 126 [(m, eO 8 [.int (iI vb), .ref aBath, .int (iI vn), .ref aBather, .int (iI vo), .int (iI vm), .ref aMorn, .int (iI vs), .ref aText, .int (iI vt), .int (iI vf), .int (iI va), .long (lI vsd), .int (iI vw), .int (iI vu), .int (iI vna), .int (iI vrb), .ref aRB, .int (iI vrn), .ref aRN, .int (iI vro), .ref aLow, .ref aHigh, .int (iI (pI (vch = true))), .ref aNeeds, .ref aLikes, .ref aHts, .int (iI T), .int (iI vbk), .ref aBook, .ref aImg, .ref aKept]), (aBath, eI G 8 gb), (aBather, eI G 24 gt), (aLikes, eI G 13 k2), (aHts, eI G 1638 q)] [some (.ref m), some (.int (iI w)), none, none] [.int (iI v), .int (iI w), .ref aLikes] := by
                intro v hv
                refine M.iast (pc := 126) 3 rfl (by omega) (by omega) dX8_findTries_126 ?_
                dsimp only [List.set_cons_zero, List.set_cons_succ]
                refine M.iinc (pc := 127) (i := 1) rfl rfl dX8_findTries_127 ?_
                dsimp only [List.set_cons_zero, List.set_cons_succ]
                refine M.goto (pc := 130) (tgt := 98) dX8_findTries_130 (by decide) ?_
                exact ih98  (by first | assumption | omega) (by intro c h0 h1; by_cases e : c = w; subst e; rw [upZ_s, hv]; rw [upZ_n e]; exact hk2 c h0 (by omega)) (by omega)
              refine M.iloadn (pc := 110) 1 rfl rfl dX8_findTries_110 ?_
              refine M.pV (pc := 111) (c_X8_isCase  (by first | assumption | omega) (by first | assumption | omega)) mv_X8_255 [0] rfl rfl rfl 0 rfl rfl rfl rfl (Nat.le_of_ble_eq_true rfl) rfl ⟨(Nat.le_of_ble_eq_true rfl), (Nat.le_of_ble_eq_true rfl)⟩ ⟨(Nat.le_of_ble_eq_true rfl), (Nat.le_of_ble_eq_true rfl)⟩ rfl dX8_findTries_111 ?_
              refine M.if_eqP (pc := 114) (tgt := 125) dX8_findTries_114 (by decide) (fun c114 => ?_) (fun c114 => ?_)
              · refine M.iconst (pc := 125) dX8_findTries_125 ?_
                exact L126  (by rw [if_neg (show ¬ prB vn w = true from fun z => c114 (of_decide_eq_true z))])
              · refine M.aloadn (pc := 117) 0 rfl rfl dX8_findTries_117 ?_
                refine M.iloadn (pc := 118) 1 rfl rfl dX8_findTries_118 ?_
                refine M.pV (pc := 119) (c_X8_alikeOf  (by first | assumption | omega) (by first | assumption | omega) (by first | assumption | omega) (by first | assumption | omega) (by first | assumption | omega) (by exact ⟨decide_eq_true c114, hw.1, by omega⟩)) mv_X8_265 [0, 1, 2] rfl rfl rfl 0 rfl rfl rfl rfl (Nat.le_of_ble_eq_true rfl) rfl ⟨(Nat.le_of_ble_eq_true rfl), (Nat.le_of_ble_eq_true rfl)⟩ ⟨(Nat.le_of_ble_eq_true rfl), (Nat.le_of_ble_eq_true rfl)⟩ rfl dX8_findTries_119 ?_
                refine M.goto (pc := 122) (tgt := 126) dX8_findTries_122 (by decide) ?_
                exact L126  (by rw [if_pos (show prB vn w = true from decide_eq_true c114)])
        exact L98 _  (by first | assumption | omega) (by intro c _ h; omega) (Nat.lt_succ_self _)
      · refine M.iconst (pc := 15) dX8_findTries_15 ?_
        refine M.istoren (pc := 16) 2 rfl (Nat.le_of_ble_eq_true rfl) rfl dX8_findTries_16 ?_
        dsimp only [List.set_cons_zero, List.set_cons_succ]
        have L17 : ∀ (fu : Nat) {s T2 : Int} {q2 : Int → Int}, (1 ≤ s ∧ s ≤ p2 vn) → (T2 = tix vn b s) → (HQ vb vn (hC gb gt vo vn) (prB vn) q2 T2) → (p2 vn - s).toNat < fu → V 0 0 17 [(m, eO 8 [.int (iI vb), .ref aBath, .int (iI vn), .ref aBather, .int (iI vo), .int (iI vm), .ref aMorn, .int (iI vs), .ref aText, .int (iI vt), .int (iI vf), .int (iI va), .long (lI vsd), .int (iI vw), .int (iI vu), .int (iI vna), .int (iI vrb), .ref aRB, .int (iI vrn), .ref aRN, .int (iI vro), .ref aLow, .ref aHigh, .int (iI (pI (vch = true))), .ref aNeeds, .ref aLikes, .ref aHts, .int (iI T2), .int (iI vbk), .ref aBook, .ref aImg, .ref aKept]), (aBath, eI G 8 gb), (aBather, eI G 24 gt), (aLikes, eI G 13 gk), (aHts, eI G 1638 q2)] [some (.ref m), some (.int (iI b)), some (.int (iI s)), none] [] := by
          intro fu
          induction fu with
          | zero => intro s T2 q2 hs hT2 hq2 hm; exact absurd hm (Nat.not_lt_zero _)
          | succ fu ih17 =>
            intro s T2 q2 hs hT2 hq2 hm17
            refine M.iloadn (pc := 17) 2 rfl rfl dX8_findTries_17 ?_
            refine M.iconst (pc := 18) dX8_findTries_18 ?_
            refine M.aloadn (pc := 19) 0 rfl rfl dX8_findTries_19 ?_
            refine M.getf (pc := 20) fg_X8_67 0 rfl rfl dX8_findTries_20 ?_
            refine M.ishl (pc := 23) (bit_shl1 hn.1 (by omega)) dX8_findTries_23 ?_
            
            refine M.icmp_ge (pc := 24) (tgt := 90) dX8_findTries_24 (by decide) (by omega) (by omega) (fun c24 => ?_) (fun c24 => ?_)
            · refine M.iinc (pc := 90) (i := 1) rfl rfl dX8_findTries_90 ?_
              dsimp only [List.set_cons_zero, List.set_cons_succ]
              refine M.goto (pc := 93) (tgt := 7) dX8_findTries_93 (by decide) ?_
              refine M.forget 2 ?_
              dsimp only [List.set_cons_zero, List.set_cons_succ]
              exact ih7  (by first | assumption | omega) (by rw [hT2, show s = p2 vn by omega, if_neg (by omega), show b + 1 - 1 = b by omega]) (by exact hq2) (by omega)
            · refine M.iconst (pc := 27) dX8_findTries_27 ?_
              refine M.istoren (pc := 28) 3 rfl (Nat.le_of_ble_eq_true rfl) rfl dX8_findTries_28 ?_
              dsimp only [List.set_cons_zero, List.set_cons_succ]
              have L29 : ∀ (fu : Nat) {c : Int} {q3 : Int → Int}, (0 ≤ c ∧ c ≤ 13) → (HQ vb vn (hC gb gt vo vn) (prB vn) q3 T2) → (∀ d, 0 ≤ d → d < c → q3 (13 * tix vn b s + d) = if prB vn d = true then (hC gb gt vo vn) (b * 64 + s) d else -1) → (13 - c).toNat < fu → V 0 0 29 [(m, eO 8 [.int (iI vb), .ref aBath, .int (iI vn), .ref aBather, .int (iI vo), .int (iI vm), .ref aMorn, .int (iI vs), .ref aText, .int (iI vt), .int (iI vf), .int (iI va), .long (lI vsd), .int (iI vw), .int (iI vu), .int (iI vna), .int (iI vrb), .ref aRB, .int (iI vrn), .ref aRN, .int (iI vro), .ref aLow, .ref aHigh, .int (iI (pI (vch = true))), .ref aNeeds, .ref aLikes, .ref aHts, .int (iI T2), .int (iI vbk), .ref aBook, .ref aImg, .ref aKept]), (aBath, eI G 8 gb), (aBather, eI G 24 gt), (aLikes, eI G 13 gk), (aHts, eI G 1638 q3)] [some (.ref m), some (.int (iI b)), some (.int (iI s)), some (.int (iI c))] [] := by
                intro fu
                induction fu with
                | zero => intro c q3 hc hq3 hq4 hm; exact absurd hm (Nat.not_lt_zero _)
                | succ fu ih29 =>
                  intro c q3 hc hq3 hq4 hm29
                  refine M.iloadn (pc := 29) 3 rfl rfl dX8_findTries_29 ?_
                  refine M.bipush (pc := 30) (by decide +kernel) dX8_findTries_30 ?_
                  refine M.icmp_ge (pc := 32) (tgt := 74) dX8_findTries_32 (by decide) (by omega) (by omega) (fun c32 => ?_) (fun c32 => ?_)
                  · refine M.aloadn (pc := 74) 0 rfl rfl dX8_findTries_74 ?_
                    refine M.dup (pc := 75) rfl dX8_findTries_75 ?_
                    refine M.getf (pc := 76) fg_X8_268 0 rfl rfl dX8_findTries_76 ?_
                    refine M.iconst (pc := 79) dX8_findTries_79 ?_
                    refine M.iadd (pc := 80) dX8_findTries_80 ?_
                    refine M.putf (pc := 81) fp_X8_268 0 rfl rfl rfl (Nat.le_of_ble_eq_true rfl) dX8_findTries_81 ?_
                    dsimp only [List.set_cons_zero, List.set_cons_succ]
                    refine M.iinc (pc := 84) (i := 2) rfl rfl dX8_findTries_84 ?_
                    dsimp only [List.set_cons_zero, List.set_cons_succ]
                    refine M.goto (pc := 87) (tgt := 17) dX8_findTries_87 (by decide) ?_
                    refine M.forget 3 ?_
                    dsimp only [List.set_cons_zero, List.set_cons_succ]
                    exact ih17  (by first | assumption | omega) (by rw [hT2]; unfold tix; split <;> omega) (by intro b2 s2 c2 h1 h2 h3 h4; rcases (by omega : tix vn b2 s2 < T2 ∨ tix vn b2 s2 = tix vn b s) with z | z; exact hq3 b2 s2 c2 h1 h2 h3 z; (have e2 : b2 = b ∧ s2 = s := by (unfold tix at z; split at z <;> split at z <;> omega)); rw [e2.1, e2.2]; exact hq4 c2 h3.1 (by omega)) (by omega)
                  · have htx : 0 ≤ tix vn b s ∧ tix vn b s < 126 := by unfold tix; split <;> omega
                    refine M.aloadn (pc := 35) 0 rfl rfl dX8_findTries_35 ?_
                    refine M.getf (pc := 36) fg_X8_47 0 rfl rfl dX8_findTries_36 ?_
                    refine M.bipush (pc := 39) (by decide +kernel) dX8_findTries_39 ?_
                    refine M.aloadn (pc := 41) 0 rfl rfl dX8_findTries_41 ?_
                    refine M.getf (pc := 42) fg_X8_268 0 rfl rfl dX8_findTries_42 ?_
                    refine M.imul (pc := 45) dX8_findTries_45 ?_
                    refine M.iloadn (pc := 46) 3 rfl rfl dX8_findTries_46 ?_
                    refine M.iadd (pc := 47) dX8_findTries_47 ?_
                    have L67 : ∀ {v : Int}, (v = if prB vn c = true then (hC gb gt vo vn) (b * 64 + s) c else -1) → V 0 0 67 [(m, eO 8 [.int (iI vb), .ref aBath, .int (iI vn), .ref aBather, .int (iI vo), .int (iI vm), .ref aMorn, .int (iI vs), .ref aText, .int (iI vt), .int (iI vf), .int (iI va), .long (lI vsd), .int (iI vw), .int (iI vu), .int (iI vna), .int (iI vrb), .ref aRB, .int (iI vrn), .ref aRN, .int (iI vro), .ref aLow, .ref aHigh, .int (iI (pI (vch = true))), .ref aNeeds, .ref aLikes, .ref aHts, .int (iI T2), .int (iI vbk), .ref aBook, .ref aImg, .ref aKept]), (aBath, eI G 8 gb), (aBather, eI G 24 gt), (aLikes, eI G 13 gk), (aHts, eI G 1638 q3)] [some (.ref m), some (.int (iI b)), some (.int (iI s)), some (.int (iI c))] [.int (iI v), .int (iI (13 * T2 + c)), .ref aHts] := by
                      intro v hv
                      refine M.iast (pc := 67) 4 rfl (by omega) (by omega) dX8_findTries_67 ?_
                      dsimp only [List.set_cons_zero, List.set_cons_succ]
                      refine M.iinc (pc := 68) (i := 3) rfl rfl dX8_findTries_68 ?_
                      dsimp only [List.set_cons_zero, List.set_cons_succ]
                      refine M.goto (pc := 71) (tgt := 29) dX8_findTries_71 (by decide) ?_
                      exact ih29  (by first | assumption | omega) (by intro b2 s2 c2 h1 h2 h3 h4; rw [upZ_n (by omega)]; exact hq3 b2 s2 c2 h1 h2 h3 h4) (by intro d h0 h1; by_cases e : d = c; subst e; rw [← hT2, upZ_s, hv]; rw [upZ_n (by omega)]; exact hq4 d h0 (by omega)) (by omega)
                    refine M.aloadn (pc := 48) 0 rfl rfl dX8_findTries_48 ?_
                    refine M.iloadn (pc := 49) 3 rfl rfl dX8_findTries_49 ?_
                    refine M.pV (pc := 50) (c_X8_isCase  (by first | assumption | omega) (by first | assumption | omega)) mv_X8_255 [0] rfl rfl rfl 0 rfl rfl rfl rfl (Nat.le_of_ble_eq_true rfl) rfl ⟨(Nat.le_of_ble_eq_true rfl), (Nat.le_of_ble_eq_true rfl)⟩ ⟨(Nat.le_of_ble_eq_true rfl), (Nat.le_of_ble_eq_true rfl)⟩ rfl dX8_findTries_50 ?_
                    refine M.if_eqP (pc := 53) (tgt := 66) dX8_findTries_53 (by decide) (fun c53 => ?_) (fun c53 => ?_)
                    · refine M.iconst (pc := 66) dX8_findTries_66 ?_
                      exact L67  (by rw [if_neg (show ¬ prB vn c = true from fun z => c53 (of_decide_eq_true z))])
                    · refine M.aloadn (pc := 56) 0 rfl rfl dX8_findTries_56 ?_
                      refine M.iloadn (pc := 57) 1 rfl rfl dX8_findTries_57 ?_
                      refine M.iloadn (pc := 58) 2 rfl rfl dX8_findTries_58 ?_
                      refine M.iloadn (pc := 59) 3 rfl rfl dX8_findTries_59 ?_
                      
                      refine M.pV (pc := 60) (c_X8_tellsOf  (by first | assumption | omega) (by first | assumption | omega) (by omega) (by first | assumption | omega) (by first | assumption | omega) (by omega) (by first | assumption | omega) (by omega)) mv_X8_258 [0, 1, 2] rfl rfl rfl 0 rfl rfl rfl rfl (Nat.le_of_ble_eq_true rfl) rfl ⟨(Nat.le_of_ble_eq_true rfl), (Nat.le_of_ble_eq_true rfl)⟩ ⟨(Nat.le_of_ble_eq_true rfl), (Nat.le_of_ble_eq_true rfl)⟩ rfl dX8_findTries_60 ?_
                      refine M.goto (pc := 63) (tgt := 67) dX8_findTries_63 (by decide) ?_
                      exact L67  (by rw [if_pos (show prB vn c = true from decide_eq_true c53), hC_bs (by omega) (by omega)])
              exact L29 _  (by first | assumption | omega) (by exact hq2) (by intro d _ h; omega) (Nat.lt_succ_self _)
        exact L17 _  (by first | assumption | omega) (by rcases (by omega : b = 0 ∨ b = 1) with e | e <;> rw [hTT, e] <;> simp [tix]) (by exact hq) (Nat.lt_succ_self _)
  exact L7 _  (by first | assumption | omega) (by rfl) (by intro b s c h1 h2 _ h4; exact absurd h4 (by unfold tix; split <;> omega)) (Nat.lt_succ_self _)
