/-! rows, ends: the class's own -/
theorem bitmul {S k x : Int} : ((S.toNat / 2 ^ k.toNat % 2 : Nat) : Int) * x = if tb S k = true then x else 0 := by
  by_cases h : tb S k = true
  · rw [if_pos h, tb_mod.mp h]
    simp
  · have e : S.toNat / 2 ^ k.toNat % 2 = 0 := by
      have := mt tb_mod.mpr h
      omega
    rw [if_neg h, e]
    simp
def up4 (g : Int → Int) (i a b s v : Int) : Int → Int := upZ (upZ (upZ (upZ g i a) (i + 1) b) (i + 2) s) (i + 3) v
def cel (g : Int → Int) (c i w : Int) : Int := if i < c then g (i * 4 + w) else 0
def RA (g : Int → Int) : Prop := ∀ k, 0 ≤ k → k < 6 → 0 ≤ g k ∧ g k ≤ 999
theorem RG.l {l u : Int → Int} (h : RG l u) : RA l := fun k h0 h1 => (h k h0 h1).1
theorem RG.u {l u : Int → Int} (h : RG l u) : RA u := fun k h0 h1 => (h k h0 h1).2
theorem RA.s {g : Int → Int} (h : RA g) (S : Int) : 0 ≤ sumT g S 6 ∧ sumT g S 6 ≤ 5994 := by
  have := sumT_b (f := g) (S := S) (A := 0) (B := 999) (by omega) (by omega) 6 (fun k hk _ => h k (by omega) (by omega))
  omega
theorem RG.up {l u : Int → Int} {k a b : Int} (h : RG l u) (ha : 0 ≤ a ∧ a ≤ 999) (hb : 0 ≤ b ∧ b ≤ 999) : RG (upZ l k a) (upZ u k b) := by
  intro j h0 h1
  by_cases e : j = k
  · subst e; rw [upZ_s, upZ_s]; exact ⟨ha, hb⟩
  · rw [upZ_n e, upZ_n e]; exact h j h0 h1
theorem Bx.up {n : Int} {U V l u : Int → Int} {k a b : Int} (h : Bx n U V l u) (ha : U k ≤ a ∧ a ≤ b ∧ b ≤ V k) : Bx n U V (upZ l k a) (upZ u k b) := by
  intro j h0 h1
  by_cases e : j = k
  · subst e; rw [upZ_s, upZ_s]; exact ha
  · rw [upZ_n e, upZ_n e]; exact h j h0 h1
/-- the arrays hold the mornings' data -/
def DA (n c : Int) (Sm L Gm gs gL gG : Int → Int) : Prop := ∀ m, 0 ≤ m → m < c → gs m = Sm m ∧ gL m = (if Gm m < 0 then -1 else L m) ∧ gG m = max (-1) (Gm m) ∧ (0 ≤ Sm m ∧ Sm m < p2 n) ∧ (0 ≤ L m ∧ L m ≤ 1000000000) ∧ (-20000 ≤ Gm m ∧ Gm m ≤ 1000000000)
def LD (fb gm : Int → Int) (c : Int) (gs gL gG : Int → Int) : Prop := ∀ x, 0 ≤ x → x < 12 → gs x = cel gm c x 2 ∧ gL x = hLea fb (cel gm c x 0) (cel gm c x 1) (cel gm c x 3) ∧ gG x = hGre fb (cel gm c x 0) (cel gm c x 1) (cel gm c x 3)
theorem DA.of {fb gm gs gL gG : Int → Int} {n c nb : Int} (hB : HB fb) (hnb : nb ≤ 2) (hc : c ≤ 12) (hM : HM gm c nb n) (h : LD fb gm c gs gL gG) : DA n c (mS gm) (mL fb gm) (mG fb gm) gs gL gG := by
  intro m h0 h1
  obtain ⟨e1, e2, e3⟩ := h m h0 (by omega)
  obtain ⟨a1, a2, a3, a4⟩ := hM m h0 h1
  unfold cel at e1 e2 e3
  simp only [if_pos h1] at e1 e2 e3
  have b1 := hMea_b hB a1.1 (by omega)
  have b2 := hWat_b hB a1.1 (by omega) a2.1
  have b3 := hMul_b hB a1.1 (by omega) a4.1 (by omega)
  have f1 : hGre fb (gm (m * 4 + 0)) (gm (m * 4 + 1)) (gm (m * 4 + 3)) = max (-1) (mG fb gm m) := rfl
  have f2 : hLea fb (gm (m * 4 + 0)) (gm (m * 4 + 1)) (gm (m * 4 + 3)) = if max (-1) (mG fb gm m) = -1 then -1 else mL fb gm m := rfl
  have f3 : mG fb gm m = gm (m * 4 + 3) * hMea fb (gm (m * 4 + 0)) + hMea fb (gm (m * 4 + 0)) - 1 - hWat fb (gm (m * 4 + 0)) (gm (m * 4 + 1)) := rfl
  have f4 : mL fb gm m = max 0 (gm (m * 4 + 3) * hMea fb (gm (m * 4 + 0)) - hWat fb (gm (m * 4 + 0)) (gm (m * 4 + 1))) := rfl
  have f5 : mS gm m = gm (m * 4 + 2) := rfl
  rw [e1, e2, e3, f1, f2, f5]
  refine ⟨rfl, ?_, rfl, a3, by omega, by omega⟩
  by_cases q : mG fb gm m < 0
  · rw [if_pos q, if_pos (by omega)]
  · rw [if_neg q, if_neg (by omega)]
theorem cel_b {gm : Int → Int} {c nb n : Int} (hM : HM gm c nb n) (hnb : nb ≤ 2) (hn : n ≤ 6) {x : Int} (h0 : 0 ≤ x) : (0 ≤ cel gm c x 0 ∧ cel gm c x 0 < 2) ∧ (0 ≤ cel gm c x 1 ∧ cel gm c x 1 < 100) ∧ (0 ≤ cel gm c x 2 ∧ cel gm c x 2 < 64) ∧ (0 ≤ cel gm c x 3 ∧ cel gm c x 3 < 100000) := by
  unfold cel
  by_cases h : x < c
  · obtain ⟨a1, a2, a3, a4⟩ := hM x h0 h
    have := p2_6 hn
    simp only [if_pos h]
    omega
  · simp only [if_neg h]
    omega
set_option maxHeartbeats 4000000 in
set_option maxRecDepth 100000 in
theorem c_X6_hasRoom {l : Launch} {G : GT} {r rc N : Nat} {g : Int → Int} {c : Int} (hc : 0 ≤ c ∧ c * 4 ≤ N) (hN : N ≤ 400) : ConF l G yX6_hasRoom cX6_hasRoom 1 (some .boolean) { frames := 0, cells := 0, slots := 0, locals := 0 } [.ref r] [(r, eO 6 [.ref rc, .int (iI c)]), (rc, eI G N g)] (some (.int (iI (pI (c * 4 < (N : Int)))))) := by
  refine Con.mk (by decide +kernel) [some (.ref r)] rfl (Nat.le_of_ble_eq_true rfl) rfl ?_
  intro V M EI EL EV EA
  refine M.aloadn (pc := 0) 0 rfl rfl dX6_hasRoom_0 ?_
  refine M.getf (pc := 1) fg_X6_19 0 rfl rfl dX6_hasRoom_1 ?_
  refine M.iconst (pc := 4) dX6_hasRoom_4 ?_
  refine M.imul (pc := 5) dX6_hasRoom_5 ?_
  refine M.aloadn (pc := 6) 0 rfl rfl dX6_hasRoom_6 ?_
  refine M.getf (pc := 7) fg_X6_15 0 rfl rfl dX6_hasRoom_7 ?_
  refine M.alenI (pc := 10) 1 rfl dX6_hasRoom_10 ?_
  refine M.icmp_ge (pc := 11) (tgt := 18) dX6_hasRoom_11 (by decide) (by omega) (by omega) (fun c11 => ?_) (fun c11 => ?_)
  · refine M.iconst (pc := 18) dX6_hasRoom_18 ?_
    exact EI () _ _ _ _ dX6_hasRoom_19 (Or.inr ⟨rfl, by first | exact Or.inl rfl | exact Or.inr rfl | exact pI_01 _⟩) (eqI (by first | exact pI_eq1 (by omega) rfl | exact pI_eq0 (by omega) rfl)) rfl trivial
  · refine M.iconst (pc := 14) dX6_hasRoom_14 ?_
    refine M.goto (pc := 15) (tgt := 19) dX6_hasRoom_15 (by decide) ?_
    exact EI () _ _ _ _ dX6_hasRoom_19 (Or.inr ⟨rfl, by first | exact Or.inl rfl | exact Or.inr rfl | exact pI_01 _⟩) (eqI (by first | exact pI_eq1 (by omega) rfl | exact pI_eq0 (by omega) rfl)) rfl trivial
set_option maxHeartbeats 4000000 in
set_option maxRecDepth 100000 in
theorem c_X6_cellAt {l : Launch} {G : GT} {r rc N : Nat} {g : Int → Int} {c : Int} {i w : Int} (hc : 0 ≤ c ∧ c * 4 ≤ N) (hN : N ≤ 400) (hi : 0 ≤ i ∧ i ≤ 100) (hw : 0 ≤ w ∧ w < 4) : ConF l G yX6_cellAt cX6_cellAt 4 (some .int) { frames := 0, cells := 0, slots := 0, locals := 0 } [.ref r, .int (iI i), .int (iI w)] [(r, eO 6 [.ref rc, .int (iI c)]), (rc, eI G N g)] (some (.int (iI (cel g c i w)))) := by
  refine Con.mk (by decide +kernel) [some (.ref r), some (.int (iI i)), some (.int (iI w)), none] rfl (Nat.le_of_ble_eq_true rfl) rfl ?_
  intro V M EI EL EV EA
  refine M.iloadn (pc := 0) 1 rfl rfl dX6_cellAt_0 ?_
  refine M.iconst (pc := 1) dX6_cellAt_1 ?_
  refine M.imul (pc := 2) dX6_cellAt_2 ?_
  refine M.iloadn (pc := 3) 2 rfl rfl dX6_cellAt_3 ?_
  refine M.iadd (pc := 4) dX6_cellAt_4 ?_
  refine M.istoren (pc := 5) 3 rfl (Nat.le_of_ble_eq_true rfl) rfl dX6_cellAt_5 ?_
  dsimp only [List.set_cons_zero, List.set_cons_succ]
  refine M.iloadn (pc := 6) 1 rfl rfl dX6_cellAt_6 ?_
  refine M.if_lt (pc := 7) (tgt := 40) dX6_cellAt_7 (by decide) (by omega) (fun c7 => ?_) (fun c7 => ?_)
  · refine M.iconst (pc := 40) dX6_cellAt_40 ?_
    exact EI () _ _ _ _ dX6_cellAt_41 (Or.inl rfl) (eqI (by unfold cel; first | exact if_pos c15 | exact if_neg (by omega))) rfl trivial
  · refine M.iloadn (pc := 10) 1 rfl rfl dX6_cellAt_10 ?_
    refine M.aloadn (pc := 11) 0 rfl rfl dX6_cellAt_11 ?_
    refine M.getf (pc := 12) fg_X6_19 0 rfl rfl dX6_cellAt_12 ?_
    refine M.icmp_ge (pc := 15) (tgt := 40) dX6_cellAt_15 (by decide) (by omega) (by omega) (fun c15 => ?_) (fun c15 => ?_)
    · refine M.iconst (pc := 40) dX6_cellAt_40 ?_
      exact EI () _ _ _ _ dX6_cellAt_41 (Or.inl rfl) (eqI (by unfold cel; first | exact if_pos c15 | exact if_neg (by omega))) rfl trivial
    · refine M.iloadn (pc := 18) 3 rfl rfl dX6_cellAt_18 ?_
      refine M.if_lt (pc := 19) (tgt := 40) dX6_cellAt_19 (by decide) (by omega) (fun c19 => ?_) (fun c19 => ?_)
      · refine M.iconst (pc := 40) dX6_cellAt_40 ?_
        exact EI () _ _ _ _ dX6_cellAt_41 (Or.inl rfl) (eqI (by unfold cel; first | exact if_pos c15 | exact if_neg (by omega))) rfl trivial
      · refine M.iloadn (pc := 22) 3 rfl rfl dX6_cellAt_22 ?_
        refine M.aloadn (pc := 23) 0 rfl rfl dX6_cellAt_23 ?_
        refine M.getf (pc := 24) fg_X6_15 0 rfl rfl dX6_cellAt_24 ?_
        refine M.alenI (pc := 27) 1 rfl dX6_cellAt_27 ?_
        refine M.icmp_ge (pc := 28) (tgt := 40) dX6_cellAt_28 (by decide) (by omega) (by omega) (fun c28 => ?_) (fun c28 => ?_)
        · refine M.iconst (pc := 40) dX6_cellAt_40 ?_
          exact EI () _ _ _ _ dX6_cellAt_41 (Or.inl rfl) (eqI (by unfold cel; first | exact if_pos c15 | exact if_neg (by omega))) rfl trivial
        · refine M.aloadn (pc := 31) 0 rfl rfl dX6_cellAt_31 ?_
          refine M.getf (pc := 32) fg_X6_15 0 rfl rfl dX6_cellAt_32 ?_
          refine M.iloadn (pc := 35) 3 rfl rfl dX6_cellAt_35 ?_
          refine M.iald (pc := 36) 1 rfl (by omega) (by omega) dX6_cellAt_36 ?_
          refine M.goto (pc := 37) (tgt := 41) dX6_cellAt_37 (by decide) ?_
          exact EI () _ _ _ _ dX6_cellAt_41 (Or.inl rfl) (eqI (by unfold cel; first | exact if_pos c15 | exact if_neg (by omega))) rfl trivial
set_option maxHeartbeats 4000000 in
set_option maxRecDepth 100000 in
theorem c_X6_bathAt {l : Launch} {G : GT} {r rc N : Nat} {g : Int → Int} {c : Int} {i : Int} (hc : 0 ≤ c ∧ c * 4 ≤ N) (hN : N ≤ 400) (hi : 0 ≤ i ∧ i ≤ 100) : ConF l G yX6_bathAt cX6_bathAt 2 (some .int) { frames := 1, cells := 0, slots := 0, locals := 23 } [.ref r, .int (iI i)] [(r, eO 6 [.ref rc, .int (iI c)]), (rc, eI G N g)] (some (.int (iI (cel g c i 0)))) := by
  refine Con.mk (by decide +kernel) [some (.ref r), some (.int (iI i))] rfl (Nat.le_of_ble_eq_true rfl) rfl ?_
  intro V M EI EL EV EA
  refine M.aloadn (pc := 0) 0 rfl rfl dX6_bathAt_0 ?_
  refine M.iloadn (pc := 1) 1 rfl rfl dX6_bathAt_1 ?_
  refine M.iconst (pc := 2) dX6_bathAt_2 ?_
  refine M.pV (pc := 3) (c_X6_cellAt  (by first | assumption | omega) (by first | assumption | omega) (by first | assumption | omega) (by first | assumption | omega)) mv_X6_23 [0, 1] rfl rfl rfl 0 rfl rfl rfl rfl (Nat.le_of_ble_eq_true rfl) rfl ⟨(Nat.le_of_ble_eq_true rfl), (Nat.le_of_ble_eq_true rfl)⟩ ⟨(Nat.le_of_ble_eq_true rfl), (Nat.le_of_ble_eq_true rfl)⟩ rfl dX6_bathAt_3 ?_
  exact EI () _ _ _ _ dX6_bathAt_6 (Or.inl rfl) (eqI (by rfl)) rfl trivial
set_option maxHeartbeats 4000000 in
set_option maxRecDepth 100000 in
theorem c_X6_hourAt {l : Launch} {G : GT} {r rc N : Nat} {g : Int → Int} {c : Int} {i : Int} (hc : 0 ≤ c ∧ c * 4 ≤ N) (hN : N ≤ 400) (hi : 0 ≤ i ∧ i ≤ 100) : ConF l G yX6_hourAt cX6_hourAt 2 (some .int) { frames := 1, cells := 0, slots := 0, locals := 23 } [.ref r, .int (iI i)] [(r, eO 6 [.ref rc, .int (iI c)]), (rc, eI G N g)] (some (.int (iI (cel g c i 1)))) := by
  refine Con.mk (by decide +kernel) [some (.ref r), some (.int (iI i))] rfl (Nat.le_of_ble_eq_true rfl) rfl ?_
  intro V M EI EL EV EA
  refine M.aloadn (pc := 0) 0 rfl rfl dX6_hourAt_0 ?_
  refine M.iloadn (pc := 1) 1 rfl rfl dX6_hourAt_1 ?_
  refine M.iconst (pc := 2) dX6_hourAt_2 ?_
  refine M.pV (pc := 3) (c_X6_cellAt  (by first | assumption | omega) (by first | assumption | omega) (by first | assumption | omega) (by first | assumption | omega)) mv_X6_23 [0, 1] rfl rfl rfl 0 rfl rfl rfl rfl (Nat.le_of_ble_eq_true rfl) rfl ⟨(Nat.le_of_ble_eq_true rfl), (Nat.le_of_ble_eq_true rfl)⟩ ⟨(Nat.le_of_ble_eq_true rfl), (Nat.le_of_ble_eq_true rfl)⟩ rfl dX6_hourAt_3 ?_
  exact EI () _ _ _ _ dX6_hourAt_6 (Or.inl rfl) (eqI (by rfl)) rfl trivial
set_option maxHeartbeats 4000000 in
set_option maxRecDepth 100000 in
theorem c_X6_setAt {l : Launch} {G : GT} {r rc N : Nat} {g : Int → Int} {c : Int} {i : Int} (hc : 0 ≤ c ∧ c * 4 ≤ N) (hN : N ≤ 400) (hi : 0 ≤ i ∧ i ≤ 100) : ConF l G yX6_setAt cX6_setAt 2 (some .int) { frames := 1, cells := 0, slots := 0, locals := 23 } [.ref r, .int (iI i)] [(r, eO 6 [.ref rc, .int (iI c)]), (rc, eI G N g)] (some (.int (iI (cel g c i 2)))) := by
  refine Con.mk (by decide +kernel) [some (.ref r), some (.int (iI i))] rfl (Nat.le_of_ble_eq_true rfl) rfl ?_
  intro V M EI EL EV EA
  refine M.aloadn (pc := 0) 0 rfl rfl dX6_setAt_0 ?_
  refine M.iloadn (pc := 1) 1 rfl rfl dX6_setAt_1 ?_
  refine M.iconst (pc := 2) dX6_setAt_2 ?_
  refine M.pV (pc := 3) (c_X6_cellAt  (by first | assumption | omega) (by first | assumption | omega) (by first | assumption | omega) (by first | assumption | omega)) mv_X6_23 [0, 1] rfl rfl rfl 0 rfl rfl rfl rfl (Nat.le_of_ble_eq_true rfl) rfl ⟨(Nat.le_of_ble_eq_true rfl), (Nat.le_of_ble_eq_true rfl)⟩ ⟨(Nat.le_of_ble_eq_true rfl), (Nat.le_of_ble_eq_true rfl)⟩ rfl dX6_setAt_3 ?_
  exact EI () _ _ _ _ dX6_setAt_6 (Or.inl rfl) (eqI (by rfl)) rfl trivial
set_option maxHeartbeats 4000000 in
set_option maxRecDepth 100000 in
theorem c_X6_heightAt {l : Launch} {G : GT} {r rc N : Nat} {g : Int → Int} {c : Int} {i : Int} (hc : 0 ≤ c ∧ c * 4 ≤ N) (hN : N ≤ 400) (hi : 0 ≤ i ∧ i ≤ 100) : ConF l G yX6_heightAt cX6_heightAt 2 (some .int) { frames := 1, cells := 0, slots := 0, locals := 23 } [.ref r, .int (iI i)] [(r, eO 6 [.ref rc, .int (iI c)]), (rc, eI G N g)] (some (.int (iI (cel g c i 3)))) := by
  refine Con.mk (by decide +kernel) [some (.ref r), some (.int (iI i))] rfl (Nat.le_of_ble_eq_true rfl) rfl ?_
  intro V M EI EL EV EA
  refine M.aloadn (pc := 0) 0 rfl rfl dX6_heightAt_0 ?_
  refine M.iloadn (pc := 1) 1 rfl rfl dX6_heightAt_1 ?_
  refine M.iconst (pc := 2) dX6_heightAt_2 ?_
  refine M.pV (pc := 3) (c_X6_cellAt  (by first | assumption | omega) (by first | assumption | omega) (by first | assumption | omega) (by first | assumption | omega)) mv_X6_23 [0, 1] rfl rfl rfl 0 rfl rfl rfl rfl (Nat.le_of_ble_eq_true rfl) rfl ⟨(Nat.le_of_ble_eq_true rfl), (Nat.le_of_ble_eq_true rfl)⟩ ⟨(Nat.le_of_ble_eq_true rfl), (Nat.le_of_ble_eq_true rfl)⟩ rfl dX6_heightAt_3 ?_
  exact EI () _ _ _ _ dX6_heightAt_6 (Or.inl rfl) (eqI (by rfl)) rfl trivial
set_option maxHeartbeats 4000000 in
set_option maxRecDepth 100000 in
theorem c_X6_add {l : Launch} {G : GT} {r rc N : Nat} {g : Int → Int} {c : Int} {x1 x2 x3 x4 : Int} (hc : 0 ≤ c ∧ c * 4 ≤ N) (hN : N ≤ 400) : Con l G yX6_add cX6_add 6 none { frames := 0, cells := 0, slots := 0, locals := 0 } [.ref r, .int (iI x1), .int (iI x2), .int (iI x3), .int (iI x4)] [(r, eO 6 [.ref rc, .int (iI c)]), (rc, eI G N g)] (S := Int × (Int → Int)) (fun _ => none) (fun u => [(r, eO 6 [.ref rc, .int (iI u.1)]), (rc, eI G N u.2)]) (fun u => (c * 4 < (N : Int) ∧ 4 ∣ N → u.1 = c + 1 ∧ u.2 = up4 g (c * 4) x1 x2 x3 x4) ∧ (¬ c * 4 < (N : Int) → u.1 = c ∧ u.2 = g)) := by
  refine Con.mk (by decide +kernel) [some (.ref r), some (.int (iI x1)), some (.int (iI x2)), some (.int (iI x3)), some (.int (iI x4)), none] rfl (Nat.le_of_ble_eq_true rfl) rfl ?_
  intro V M EI EL EV EA
  refine M.aloadn (pc := 0) 0 rfl rfl dX6_add_0 ?_
  refine M.getf (pc := 1) fg_X6_19 0 rfl rfl dX6_add_1 ?_
  refine M.iconst (pc := 4) dX6_add_4 ?_
  refine M.imul (pc := 5) dX6_add_5 ?_
  refine M.istore (pc := 6) (i := 5) (Nat.le_of_ble_eq_true rfl) rfl dX6_add_6 ?_
  dsimp only [List.set_cons_zero, List.set_cons_succ]
  refine M.iload (pc := 8) (i := 5) rfl dX6_add_8 ?_
  refine M.if_lt (pc := 10) (tgt := 74) dX6_add_10 (by decide) (by omega) (fun c10 => ?_) (fun c10 => ?_)
  · exact EV (_, _) _ _ _ dX6_add_74 rfl (rfl) (rfl) (by first | exact ⟨fun _ => ⟨rfl, rfl⟩, fun z => by omega⟩ | exact ⟨fun z => by omega, fun _ => ⟨rfl, rfl⟩⟩)
  · refine M.iload (pc := 13) (i := 5) rfl dX6_add_13 ?_
    refine M.iconst (pc := 15) dX6_add_15 ?_
    refine M.iadd (pc := 16) dX6_add_16 ?_
    refine M.aloadn (pc := 17) 0 rfl rfl dX6_add_17 ?_
    refine M.getf (pc := 18) fg_X6_15 0 rfl rfl dX6_add_18 ?_
    refine M.alenI (pc := 21) 1 rfl dX6_add_21 ?_
    refine M.icmp_ge (pc := 22) (tgt := 74) dX6_add_22 (by decide) (by omega) (by omega) (fun c22 => ?_) (fun c22 => ?_)
    · exact EV (_, _) _ _ _ dX6_add_74 rfl (rfl) (rfl) (by first | exact ⟨fun _ => ⟨rfl, rfl⟩, fun z => by omega⟩ | exact ⟨fun z => by omega, fun _ => ⟨rfl, rfl⟩⟩)
    · refine M.aloadn (pc := 25) 0 rfl rfl dX6_add_25 ?_
      refine M.getf (pc := 26) fg_X6_15 0 rfl rfl dX6_add_26 ?_
      refine M.iload (pc := 29) (i := 5) rfl dX6_add_29 ?_
      refine M.iloadn (pc := 31) 1 rfl rfl dX6_add_31 ?_
      refine M.iast (pc := 32) 1 rfl (by omega) (by omega) dX6_add_32 ?_
      dsimp only [List.set_cons_zero, List.set_cons_succ]
      refine M.aloadn (pc := 33) 0 rfl rfl dX6_add_33 ?_
      refine M.getf (pc := 34) fg_X6_15 0 rfl rfl dX6_add_34 ?_
      refine M.iload (pc := 37) (i := 5) rfl dX6_add_37 ?_
      refine M.iconst (pc := 39) dX6_add_39 ?_
      refine M.iadd (pc := 40) dX6_add_40 ?_
      refine M.iloadn (pc := 41) 2 rfl rfl dX6_add_41 ?_
      refine M.iast (pc := 42) 1 rfl (by omega) (by omega) dX6_add_42 ?_
      dsimp only [List.set_cons_zero, List.set_cons_succ]
      refine M.aloadn (pc := 43) 0 rfl rfl dX6_add_43 ?_
      refine M.getf (pc := 44) fg_X6_15 0 rfl rfl dX6_add_44 ?_
      refine M.iload (pc := 47) (i := 5) rfl dX6_add_47 ?_
      refine M.iconst (pc := 49) dX6_add_49 ?_
      refine M.iadd (pc := 50) dX6_add_50 ?_
      refine M.iloadn (pc := 51) 3 rfl rfl dX6_add_51 ?_
      refine M.iast (pc := 52) 1 rfl (by omega) (by omega) dX6_add_52 ?_
      dsimp only [List.set_cons_zero, List.set_cons_succ]
      refine M.aloadn (pc := 53) 0 rfl rfl dX6_add_53 ?_
      refine M.getf (pc := 54) fg_X6_15 0 rfl rfl dX6_add_54 ?_
      refine M.iload (pc := 57) (i := 5) rfl dX6_add_57 ?_
      refine M.iconst (pc := 59) dX6_add_59 ?_
      refine M.iadd (pc := 60) dX6_add_60 ?_
      refine M.iload (pc := 61) (i := 4) rfl dX6_add_61 ?_
      refine M.iast (pc := 63) 1 rfl (by omega) (by omega) dX6_add_63 ?_
      dsimp only [List.set_cons_zero, List.set_cons_succ]
      refine M.aloadn (pc := 64) 0 rfl rfl dX6_add_64 ?_
      refine M.dup (pc := 65) rfl dX6_add_65 ?_
      refine M.getf (pc := 66) fg_X6_19 0 rfl rfl dX6_add_66 ?_
      refine M.iconst (pc := 69) dX6_add_69 ?_
      refine M.iadd (pc := 70) dX6_add_70 ?_
      refine M.putf (pc := 71) fp_X6_19 0 rfl rfl rfl (Nat.le_of_ble_eq_true rfl) dX6_add_71 ?_
      dsimp only [List.set_cons_zero, List.set_cons_succ]
      exact EV (_, _) _ _ _ dX6_add_74 rfl (rfl) (rfl) (by first | exact ⟨fun _ => ⟨rfl, rfl⟩, fun z => by omega⟩ | exact ⟨fun z => by omega, fun _ => ⟨rfl, rfl⟩⟩)
set_option maxHeartbeats 4000000 in
set_option maxRecDepth 100000 in
theorem c_X6_drop {l : Launch} {G : GT} {r rc N : Nat} {g : Int → Int} {c : Int} {i : Int} (hc : 0 ≤ c ∧ c * 4 ≤ N) (hN : N ≤ 400) (hi : 0 ≤ i ∧ i < c) : Con l G yX6_drop cX6_drop 3 none { frames := 0, cells := 0, slots := 0, locals := 0 } [.ref r, .int (iI i)] [(r, eO 6 [.ref rc, .int (iI c)]), (rc, eI G N g)] (S := Int × (Int → Int)) (fun _ => none) (fun u => [(r, eO 6 [.ref rc, .int (iI u.1)]), (rc, eI G N u.2)]) (fun u => u.1 = c - 1 ∧ (∀ x, 0 ≤ x → x < i * 4 → u.2 x = g x) ∧ (∀ x, i * 4 ≤ x → x + 4 < (N : Int) → u.2 x = g (x + 4))) := by
  refine Con.mk (by decide +kernel) [some (.ref r), some (.int (iI i)), none] rfl (Nat.le_of_ble_eq_true rfl) rfl ?_
  intro V M EI EL EV EA
  refine M.iloadn (pc := 0) 1 rfl rfl dX6_drop_0 ?_
  refine M.if_lt (pc := 1) (tgt := 12) dX6_drop_1 (by decide) (by omega) (fun c1 => ?_) (fun c1 => ?_)
  · exact absurd c1 (by omega)
  · refine M.iloadn (pc := 4) 1 rfl rfl dX6_drop_4 ?_
    refine M.aloadn (pc := 5) 0 rfl rfl dX6_drop_5 ?_
    refine M.getf (pc := 6) fg_X6_19 0 rfl rfl dX6_drop_6 ?_
    refine M.icmp_lt (pc := 9) (tgt := 13) dX6_drop_9 (by decide) (by omega) (by omega) (fun c9 => ?_) (fun c9 => ?_)
    · refine M.iloadn (pc := 13) 1 rfl rfl dX6_drop_13 ?_
      refine M.iconst (pc := 14) dX6_drop_14 ?_
      refine M.imul (pc := 15) dX6_drop_15 ?_
      refine M.istoren (pc := 16) 2 rfl (Nat.le_of_ble_eq_true rfl) rfl dX6_drop_16 ?_
      dsimp only [List.set_cons_zero, List.set_cons_succ]
      have L17 : ∀ (fu : Nat) {j : Int} {g2 : Int → Int}, (i * 4 ≤ j ∧ j + 4 ≤ N) → (∀ x, 0 ≤ x → x < i * 4 → g2 x = g x) → (∀ x, i * 4 ≤ x → x < j → g2 x = g (x + 4)) → (∀ x, j ≤ x → g2 x = g x) → ((N : Int) - j).toNat < fu → V 0 0 17 [(r, eO 6 [.ref rc, .int (iI c)]), (rc, eI G N g2)] [some (.ref r), some (.int (iI i)), some (.int (iI j))] [] := by
        intro fu
        induction fu with
        | zero => intro j g2 hj hg1 hg2 hg3 hm; exact absurd hm (Nat.not_lt_zero _)
        | succ fu ih17 =>
          intro j g2 hj hg1 hg2 hg3 hm17
          refine M.iloadn (pc := 17) 2 rfl rfl dX6_drop_17 ?_
          refine M.iconst (pc := 18) dX6_drop_18 ?_
          refine M.iadd (pc := 19) dX6_drop_19 ?_
          refine M.aloadn (pc := 20) 0 rfl rfl dX6_drop_20 ?_
          refine M.getf (pc := 21) fg_X6_15 0 rfl rfl dX6_drop_21 ?_
          refine M.alenI (pc := 24) 1 rfl dX6_drop_24 ?_
          refine M.icmp_ge (pc := 25) (tgt := 48) dX6_drop_25 (by decide) (by omega) (by omega) (fun c25 => ?_) (fun c25 => ?_)
          · refine M.aloadn (pc := 48) 0 rfl rfl dX6_drop_48 ?_
            refine M.dup (pc := 49) rfl dX6_drop_49 ?_
            refine M.getf (pc := 50) fg_X6_19 0 rfl rfl dX6_drop_50 ?_
            refine M.iconst (pc := 53) dX6_drop_53 ?_
            refine M.isub (pc := 54) dX6_drop_54 ?_
            refine M.putf (pc := 55) fp_X6_19 0 rfl rfl rfl (Nat.le_of_ble_eq_true rfl) dX6_drop_55 ?_
            dsimp only [List.set_cons_zero, List.set_cons_succ]
            exact EV (_, _) _ _ _ dX6_drop_58 rfl (rfl) (rfl) (⟨rfl, hg1, fun x h0 h1 => hg2 x h0 (by omega)⟩)
          · refine M.aloadn (pc := 28) 0 rfl rfl dX6_drop_28 ?_
            refine M.getf (pc := 29) fg_X6_15 0 rfl rfl dX6_drop_29 ?_
            refine M.iloadn (pc := 32) 2 rfl rfl dX6_drop_32 ?_
            refine M.aloadn (pc := 33) 0 rfl rfl dX6_drop_33 ?_
            refine M.getf (pc := 34) fg_X6_15 0 rfl rfl dX6_drop_34 ?_
            refine M.iloadn (pc := 37) 2 rfl rfl dX6_drop_37 ?_
            refine M.iconst (pc := 38) dX6_drop_38 ?_
            refine M.iadd (pc := 39) dX6_drop_39 ?_
            refine M.iald (pc := 40) 1 rfl (by omega) (by omega) dX6_drop_40 ?_
            refine M.iast (pc := 41) 1 rfl (by omega) (by omega) dX6_drop_41 ?_
            dsimp only [List.set_cons_zero, List.set_cons_succ]
            refine M.iinc (pc := 42) (i := 2) rfl rfl dX6_drop_42 ?_
            dsimp only [List.set_cons_zero, List.set_cons_succ]
            refine M.goto (pc := 45) (tgt := 17) dX6_drop_45 (by decide) ?_
            exact ih17  (by first | assumption | omega) (by intro x h0 h1; rw [upZ_n (by omega)]; exact hg1 x h0 h1) (by intro x h0 h1; by_cases e : x = j; subst e; rw [upZ_s]; exact hg3 _ (by omega); rw [upZ_n e]; exact hg2 x h0 (by omega)) (by intro x h0; rw [upZ_n (by omega)]; exact hg3 x (by omega)) (by omega)
      exact L17 _  (by first | assumption | omega) (by intro x _ _; rfl) (by intro x _ _; omega) (by intro x _; rfl) (Nat.lt_succ_self _)
    · exact absurd c9 (by omega)
set_option maxHeartbeats 4000000 in
set_option maxRecDepth 100000 in
theorem c_X6_copy {l : Launch} {G : GT} {r rc o oc N : Nat} {g go : Int → Int} {c co : Int} (hN : N ≤ 400) : Con l G yX6_copy cX6_copy 3 none { frames := 0, cells := 0, slots := 0, locals := 0 } [.ref r, .ref o] [(r, eO 6 [.ref rc, .int (iI c)]), (rc, eI G N g), (o, eO 6 [.ref oc, .int (iI co)]), (oc, eI G N go)] (S := Int → Int) (fun _ => none) (fun u => [(r, eO 6 [.ref rc, .int (iI co)]), (rc, eI G N u), (o, eO 6 [.ref oc, .int (iI co)]), (oc, eI G N go)]) (fun u => ∀ x, 0 ≤ x → x < (N : Int) → u x = go x) := by
  refine Con.mk (by decide +kernel) [some (.ref r), some (.ref o), none] rfl (Nat.le_of_ble_eq_true rfl) rfl ?_
  intro V M EI EL EV EA
  refine M.iconst (pc := 0) dX6_copy_0 ?_
  refine M.istoren (pc := 1) 2 rfl (Nat.le_of_ble_eq_true rfl) rfl dX6_copy_1 ?_
  dsimp only [List.set_cons_zero, List.set_cons_succ]
  have L2 : ∀ (fu : Nat) {j : Int} {g2 : Int → Int}, (0 ≤ j ∧ j ≤ N) → (∀ x, 0 ≤ x → x < j → g2 x = go x) → ((N : Int) - j).toNat < fu → V 0 0 2 [(r, eO 6 [.ref rc, .int (iI c)]), (rc, eI G N g2), (o, eO 6 [.ref oc, .int (iI co)]), (oc, eI G N go)] [some (.ref r), some (.ref o), some (.int (iI j))] [] := by
    intro fu
    induction fu with
    | zero => intro j g2 hj hg hm; exact absurd hm (Nat.not_lt_zero _)
    | succ fu ih2 =>
      intro j g2 hj hg hm2
      refine M.iloadn (pc := 2) 2 rfl rfl dX6_copy_2 ?_
      refine M.aloadn (pc := 3) 0 rfl rfl dX6_copy_3 ?_
      refine M.getf (pc := 4) fg_X6_15 0 rfl rfl dX6_copy_4 ?_
      refine M.alenI (pc := 7) 1 rfl dX6_copy_7 ?_
      refine M.icmp_ge (pc := 8) (tgt := 38) dX6_copy_8 (by decide) (by omega) (by omega) (fun c8 => ?_) (fun c8 => ?_)
      · refine M.aloadn (pc := 38) 0 rfl rfl dX6_copy_38 ?_
        refine M.aloadn (pc := 39) 1 rfl rfl dX6_copy_39 ?_
        refine M.getf (pc := 40) fg_X6_19 2 rfl rfl dX6_copy_40 ?_
        refine M.putf (pc := 43) fp_X6_19 0 rfl rfl rfl (Nat.le_of_ble_eq_true rfl) dX6_copy_43 ?_
        dsimp only [List.set_cons_zero, List.set_cons_succ]
        exact EV _ _ _ _ dX6_copy_46 rfl (rfl) (rfl) (fun x h0 h1 => hg x h0 (by omega))
      · refine M.iloadn (pc := 11) 2 rfl rfl dX6_copy_11 ?_
        refine M.aloadn (pc := 12) 1 rfl rfl dX6_copy_12 ?_
        refine M.getf (pc := 13) fg_X6_15 2 rfl rfl dX6_copy_13 ?_
        refine M.alenI (pc := 16) 3 rfl dX6_copy_16 ?_
        refine M.icmp_ge (pc := 17) (tgt := 38) dX6_copy_17 (by decide) (by omega) (by omega) (fun c17 => ?_) (fun c17 => ?_)
        · refine M.aloadn (pc := 38) 0 rfl rfl dX6_copy_38 ?_
          refine M.aloadn (pc := 39) 1 rfl rfl dX6_copy_39 ?_
          refine M.getf (pc := 40) fg_X6_19 2 rfl rfl dX6_copy_40 ?_
          refine M.putf (pc := 43) fp_X6_19 0 rfl rfl rfl (Nat.le_of_ble_eq_true rfl) dX6_copy_43 ?_
          dsimp only [List.set_cons_zero, List.set_cons_succ]
          exact EV _ _ _ _ dX6_copy_46 rfl (rfl) (rfl) (fun x h0 h1 => hg x h0 (by omega))
        · refine M.aloadn (pc := 20) 0 rfl rfl dX6_copy_20 ?_
          refine M.getf (pc := 21) fg_X6_15 0 rfl rfl dX6_copy_21 ?_
          refine M.iloadn (pc := 24) 2 rfl rfl dX6_copy_24 ?_
          refine M.aloadn (pc := 25) 1 rfl rfl dX6_copy_25 ?_
          refine M.getf (pc := 26) fg_X6_15 2 rfl rfl dX6_copy_26 ?_
          refine M.iloadn (pc := 29) 2 rfl rfl dX6_copy_29 ?_
          refine M.iald (pc := 30) 3 rfl (by omega) (by omega) dX6_copy_30 ?_
          refine M.iast (pc := 31) 1 rfl (by omega) (by omega) dX6_copy_31 ?_
          dsimp only [List.set_cons_zero, List.set_cons_succ]
          refine M.iinc (pc := 32) (i := 2) rfl rfl dX6_copy_32 ?_
          dsimp only [List.set_cons_zero, List.set_cons_succ]
          refine M.goto (pc := 35) (tgt := 2) dX6_copy_35 (by decide) ?_
          exact ih2  (by first | assumption | omega) (by intro x h0 h1; by_cases e : x = j; subst e; rw [upZ_s]; rw [upZ_n e]; exact hg x h0 (by omega)) (by omega)
  exact L2 _  (by first | assumption | omega) (by intro x _ _; omega) (Nat.lt_succ_self _)
set_option maxHeartbeats 4000000 in
set_option maxRecDepth 100000 in
theorem c_X1_sum {l : Launch} {G : GT} {a : Nat} {g : Int → Int} {S : Int} (hs : 0 ≤ S ∧ S < 2147483648) : ConF l G yX1_sum cX1_sum 4 (some .int) { frames := 0, cells := 0, slots := 0, locals := 0 } [.ref a, .int (iI S)] [(a, eI G 6 g)] (some (.int (iI (sumT g S 6)))) := by
  refine Con.mk (by decide +kernel) [some (.ref a), some (.int (iI S)), none, none] rfl (Nat.le_of_ble_eq_true rfl) rfl ?_
  intro V M EI EL EV EA
  refine M.iconst (pc := 0) dX1_sum_0 ?_
  refine M.istoren (pc := 1) 2 rfl (Nat.le_of_ble_eq_true rfl) rfl dX1_sum_1 ?_
  dsimp only [List.set_cons_zero, List.set_cons_succ]
  refine M.iconst (pc := 2) dX1_sum_2 ?_
  refine M.istoren (pc := 3) 3 rfl (Nat.le_of_ble_eq_true rfl) rfl dX1_sum_3 ?_
  dsimp only [List.set_cons_zero, List.set_cons_succ]
  have L4 : ∀ (fu : Nat) {k s : Int}, (0 ≤ k ∧ k ≤ 6) → (s = sumT g S k.toNat) → (6 - k).toNat < fu → V 0 0 4 [(a, eI G 6 g)] [some (.ref a), some (.int (iI S)), some (.int (iI s)), some (.int (iI k))] [] := by
    intro fu
    induction fu with
    | zero => intro k s hk hs2 hm; exact absurd hm (Nat.not_lt_zero _)
    | succ fu ih4 =>
      intro k s hk hs2 hm4
      refine M.iloadn (pc := 4) 3 rfl rfl dX1_sum_4 ?_
      refine M.aloadn (pc := 5) 0 rfl rfl dX1_sum_5 ?_
      refine M.alenI (pc := 6) 0 rfl dX1_sum_6 ?_
      refine M.icmp_ge (pc := 7) (tgt := 28) dX1_sum_7 (by decide) (by omega) (by omega) (fun c7 => ?_) (fun c7 => ?_)
      · refine M.iloadn (pc := 28) 2 rfl rfl dX1_sum_28 ?_
        exact EI () _ _ _ _ dX1_sum_29 (Or.inl rfl) (eqI (by rw [hs2]; congr 1; omega)) rfl trivial
      · have hst := sumT_s g S hk.1
        refine M.iloadn (pc := 10) 2 rfl rfl dX1_sum_10 ?_
        refine M.iloadn (pc := 11) 1 rfl rfl dX1_sum_11 ?_
        refine M.iloadn (pc := 12) 3 rfl rfl dX1_sum_12 ?_
        refine M.ishr (pc := 13) (bit_shr hs.1 hs.2 hk.1 (by omega)) dX1_sum_13 ?_
        refine M.iconst (pc := 14) dX1_sum_14 ?_
        refine M.iand (pc := 15) (bit_and1 (shr_lt _ hs.1 hs.2)) dX1_sum_15 ?_
        refine M.aloadn (pc := 16) 0 rfl rfl dX1_sum_16 ?_
        refine M.iloadn (pc := 17) 3 rfl rfl dX1_sum_17 ?_
        refine M.iald (pc := 18) 0 rfl (by omega) (by omega) dX1_sum_18 ?_
        refine M.imul (pc := 19) dX1_sum_19 ?_
        refine M.iadd (pc := 20) dX1_sum_20 ?_
        refine M.istoren (pc := 21) 2 rfl (Nat.le_of_ble_eq_true rfl) rfl dX1_sum_21 ?_
        dsimp only [List.set_cons_zero, List.set_cons_succ]
        refine M.iinc (pc := 22) (i := 3) rfl rfl dX1_sum_22 ?_
        dsimp only [List.set_cons_zero, List.set_cons_succ]
        refine M.goto (pc := 25) (tgt := 4) dX1_sum_25 (by decide) ?_
        exact ih4  (by first | assumption | omega) (by rw [hst, hs2, bitmul]) (by omega)
  exact L4 _  (by first | assumption | omega) (by rfl) (Nat.lt_succ_self _)
set_option maxHeartbeats 4000000 in
set_option maxRecDepth 100000 in
theorem c_X1_lowest {l : Launch} {G : GT} {e eLo eUp eSe eLe eGr : Nat} {gl gu gs gL gG : Int → Int} {ecl : Bool} {S : Int} (hs : 0 ≤ S ∧ S < 2147483648) : ConF l G yX1_lowest cX1_lowest 2 (some .int) { frames := 1, cells := 0, slots := 0, locals := 23 } [.ref e, .int (iI S)] [(e, eO 1 [.ref eLo, .ref eUp, .ref eSe, .ref eLe, .ref eGr, .int (iI (pI (ecl = true)))]), (eLo, eI G 6 gl), (eUp, eI G 6 gu), (eSe, eI G 12 gs), (eLe, eI G 12 gL), (eGr, eI G 12 gG)] (some (.int (iI (sumT gl S 6)))) := by
  refine Con.mk (by decide +kernel) [some (.ref e), some (.int (iI S))] rfl (Nat.le_of_ble_eq_true rfl) rfl ?_
  intro V M EI EL EV EA
  refine M.aloadn (pc := 0) 0 rfl rfl dX1_lowest_0 ?_
  refine M.getf (pc := 1) fg_X1_9 0 rfl rfl dX1_lowest_1 ?_
  refine M.iloadn (pc := 4) 1 rfl rfl dX1_lowest_4 ?_
  refine M.pS (pc := 5) (c_X1_sum  (by first | assumption | omega)) ms_X1_82 [1] rfl rfl rfl rfl (Nat.le_of_ble_eq_true rfl) rfl ⟨(Nat.le_of_ble_eq_true rfl), (Nat.le_of_ble_eq_true rfl)⟩ ⟨(Nat.le_of_ble_eq_true rfl), (Nat.le_of_ble_eq_true rfl)⟩ rfl dX1_lowest_5 ?_
  exact EI () _ _ _ _ dX1_lowest_8 (Or.inl rfl) (eqI (by rfl)) rfl trivial
set_option maxHeartbeats 4000000 in
set_option maxRecDepth 100000 in
theorem c_X1_highest {l : Launch} {G : GT} {e eLo eUp eSe eLe eGr : Nat} {gl gu gs gL gG : Int → Int} {ecl : Bool} {S : Int} (hs : 0 ≤ S ∧ S < 2147483648) : ConF l G yX1_highest cX1_highest 2 (some .int) { frames := 1, cells := 0, slots := 0, locals := 23 } [.ref e, .int (iI S)] [(e, eO 1 [.ref eLo, .ref eUp, .ref eSe, .ref eLe, .ref eGr, .int (iI (pI (ecl = true)))]), (eLo, eI G 6 gl), (eUp, eI G 6 gu), (eSe, eI G 12 gs), (eLe, eI G 12 gL), (eGr, eI G 12 gG)] (some (.int (iI (sumT gu S 6)))) := by
  refine Con.mk (by decide +kernel) [some (.ref e), some (.int (iI S))] rfl (Nat.le_of_ble_eq_true rfl) rfl ?_
  intro V M EI EL EV EA
  refine M.aloadn (pc := 0) 0 rfl rfl dX1_highest_0 ?_
  refine M.getf (pc := 1) fg_X1_15 0 rfl rfl dX1_highest_1 ?_
  refine M.iloadn (pc := 4) 1 rfl rfl dX1_highest_4 ?_
  refine M.pS (pc := 5) (c_X1_sum  (by first | assumption | omega)) ms_X1_82 [2] rfl rfl rfl rfl (Nat.le_of_ble_eq_true rfl) rfl ⟨(Nat.le_of_ble_eq_true rfl), (Nat.le_of_ble_eq_true rfl)⟩ ⟨(Nat.le_of_ble_eq_true rfl), (Nat.le_of_ble_eq_true rfl)⟩ rfl dX1_highest_5 ?_
  exact EI () _ _ _ _ dX1_highest_8 (Or.inl rfl) (eqI (by rfl)) rfl trivial
set_option maxHeartbeats 4000000 in
set_option maxRecDepth 100000 in
theorem c_X1_allow {l : Launch} {G : GT} {e eLo eUp eSe eLe eGr : Nat} {gl gu gs gL gG : Int → Int} {ecl : Bool} {S x y : Int} (hs : 0 ≤ S ∧ S < 2147483648) (hg : RG gl gu) (hx : InR x) (hy : InR y) : ConF l G yX1_allow cX1_allow 4 (some .boolean) { frames := 2, cells := 0, slots := 0, locals := 44 } [.ref e, .int (iI S), .int (iI x), .int (iI y)] [(e, eO 1 [.ref eLo, .ref eUp, .ref eSe, .ref eLe, .ref eGr, .int (iI (pI (ecl = true)))]), (eLo, eI G 6 gl), (eUp, eI G 6 gu), (eSe, eI G 12 gs), (eLe, eI G 12 gL), (eGr, eI G 12 gG)] (some (.int (iI (pI (y ≠ -1 ∧ sumT gl S 6 ≤ y ∧ x ≤ sumT gu S 6))))) := by
  refine Con.mk (by decide +kernel) [some (.ref e), some (.int (iI S)), some (.int (iI x)), some (.int (iI y))] rfl (Nat.le_of_ble_eq_true rfl) rfl ?_
  intro V M EI EL EV EA
  have q1 := hg.l.s S
  have q2 := hg.u.s S
  refine M.iloadn (pc := 0) 3 rfl rfl dX1_allow_0 ?_
  refine M.iconst (pc := 1) dX1_allow_1 ?_
  refine M.icmp_eq (pc := 2) (tgt := 27) dX1_allow_2 (by decide) (by omega) (by omega) (fun c2 => ?_) (fun c2 => ?_)
  · refine M.iconst (pc := 27) dX1_allow_27 ?_
    exact EI () _ _ _ _ dX1_allow_28 (Or.inr ⟨rfl, by first | exact Or.inl rfl | exact Or.inr rfl | exact pI_01 _⟩) (eqI (by first | exact pI_eq1 (by omega) rfl | exact pI_eq0 (by omega) rfl)) rfl trivial
  · refine M.aloadn (pc := 5) 0 rfl rfl dX1_allow_5 ?_
    refine M.iloadn (pc := 6) 1 rfl rfl dX1_allow_6 ?_
    refine M.pV (pc := 7) (c_X1_lowest  (by first | assumption | omega)) mv_X1_94 [0, 1, 2, 3, 4, 5] rfl rfl rfl 0 rfl rfl rfl rfl (Nat.le_of_ble_eq_true rfl) rfl ⟨(Nat.le_of_ble_eq_true rfl), (Nat.le_of_ble_eq_true rfl)⟩ ⟨(Nat.le_of_ble_eq_true rfl), (Nat.le_of_ble_eq_true rfl)⟩ rfl dX1_allow_7 ?_
    refine M.iloadn (pc := 10) 3 rfl rfl dX1_allow_10 ?_
    refine M.icmp_gt (pc := 11) (tgt := 27) dX1_allow_11 (by decide) (by omega) (by omega) (fun c11 => ?_) (fun c11 => ?_)
    · refine M.iconst (pc := 27) dX1_allow_27 ?_
      exact EI () _ _ _ _ dX1_allow_28 (Or.inr ⟨rfl, by first | exact Or.inl rfl | exact Or.inr rfl | exact pI_01 _⟩) (eqI (by first | exact pI_eq1 (by omega) rfl | exact pI_eq0 (by omega) rfl)) rfl trivial
    · refine M.aloadn (pc := 14) 0 rfl rfl dX1_allow_14 ?_
      refine M.iloadn (pc := 15) 1 rfl rfl dX1_allow_15 ?_
      refine M.pV (pc := 16) (c_X1_highest  (by first | assumption | omega)) mv_X1_97 [0, 1, 2, 3, 4, 5] rfl rfl rfl 0 rfl rfl rfl rfl (Nat.le_of_ble_eq_true rfl) rfl ⟨(Nat.le_of_ble_eq_true rfl), (Nat.le_of_ble_eq_true rfl)⟩ ⟨(Nat.le_of_ble_eq_true rfl), (Nat.le_of_ble_eq_true rfl)⟩ rfl dX1_allow_16 ?_
      refine M.iloadn (pc := 19) 2 rfl rfl dX1_allow_19 ?_
      refine M.icmp_lt (pc := 20) (tgt := 27) dX1_allow_20 (by decide) (by omega) (by omega) (fun c20 => ?_) (fun c20 => ?_)
      · refine M.iconst (pc := 27) dX1_allow_27 ?_
        exact EI () _ _ _ _ dX1_allow_28 (Or.inr ⟨rfl, by first | exact Or.inl rfl | exact Or.inr rfl | exact pI_01 _⟩) (eqI (by first | exact pI_eq1 (by omega) rfl | exact pI_eq0 (by omega) rfl)) rfl trivial
      · refine M.iconst (pc := 23) dX1_allow_23 ?_
        refine M.goto (pc := 24) (tgt := 28) dX1_allow_24 (by decide) ?_
        exact EI () _ _ _ _ dX1_allow_28 (Or.inr ⟨rfl, by first | exact Or.inl rfl | exact Or.inr rfl | exact pI_01 _⟩) (eqI (by first | exact pI_eq1 (by omega) rfl | exact pI_eq0 (by omega) rfl)) rfl trivial
set_option maxHeartbeats 4000000 in
set_option maxRecDepth 100000 in
theorem c_X1_reset {l : Launch} {G : GT} {e eLo eUp eSe eLe eGr : Nat} {gl gu gs gL gG : Int → Int} {ecl : Bool} {h hb ht : Nat} {fb ft : Int → Int} {nb n od : Int}  : Con l G yX1_reset cX1_reset 3 none { frames := 1, cells := 0, slots := 0, locals := 23 } [.ref e, .ref h] [(e, eO 1 [.ref eLo, .ref eUp, .ref eSe, .ref eLe, .ref eGr, .int (iI (pI (ecl = true)))]), (eLo, eI G 6 gl), (eUp, eI G 6 gu), (eSe, eI G 12 gs), (eLe, eI G 12 gL), (eGr, eI G 12 gG), (h, eO 3 [.ref hb, .ref ht, .int (iI nb), .int (iI n), .int (iI od)]), (hb, eI G 8 fb), (ht, eI G 24 ft)] (S := (Int → Int) × (Int → Int)) (fun _ => none) (fun u => [(e, eO 1 [.ref eLo, .ref eUp, .ref eSe, .ref eLe, .ref eGr, .int (iI (pI (ecl = true)))]), (eLo, eI G 6 u.1), (eUp, eI G 6 u.2), (eSe, eI G 12 gs), (eLe, eI G 12 gL), (eGr, eI G 12 gG), (h, eO 3 [.ref hb, .ref ht, .int (iI nb), .int (iI n), .int (iI od)]), (hb, eI G 8 fb), (ht, eI G 24 ft)]) (fun u => ∀ x, 0 ≤ x → x < 6 → u.1 x = ft (x * 4 + 0) ∧ u.2 x = ft (x * 4 + 1)) := by
  refine Con.mk (by decide +kernel) [some (.ref e), some (.ref h), none] rfl (Nat.le_of_ble_eq_true rfl) rfl ?_
  intro V M EI EL EV EA
  refine M.iconst (pc := 0) dX1_reset_0 ?_
  refine M.istoren (pc := 1) 2 rfl (Nat.le_of_ble_eq_true rfl) rfl dX1_reset_1 ?_
  dsimp only [List.set_cons_zero, List.set_cons_succ]
  have L2 : ∀ (fu : Nat) {k : Int} {l2 u2 : Int → Int}, (0 ≤ k ∧ k ≤ 6) → (∀ x, 0 ≤ x → x < k → l2 x = ft (x * 4 + 0) ∧ u2 x = ft (x * 4 + 1)) → (6 - k).toNat < fu → V 0 0 2 [(e, eO 1 [.ref eLo, .ref eUp, .ref eSe, .ref eLe, .ref eGr, .int (iI (pI (ecl = true)))]), (eLo, eI G 6 l2), (eUp, eI G 6 u2), (eSe, eI G 12 gs), (eLe, eI G 12 gL), (eGr, eI G 12 gG), (h, eO 3 [.ref hb, .ref ht, .int (iI nb), .int (iI n), .int (iI od)]), (hb, eI G 8 fb), (ht, eI G 24 ft)] [some (.ref e), some (.ref h), some (.int (iI k))] [] := by
    intro fu
    induction fu with
    | zero => intro k l2 u2 hk hq hm; exact absurd hm (Nat.not_lt_zero _)
    | succ fu ih2 =>
      intro k l2 u2 hk hq hm2
      refine M.iloadn (pc := 2) 2 rfl rfl dX1_reset_2 ?_
      refine M.aloadn (pc := 3) 0 rfl rfl dX1_reset_3 ?_
      refine M.getf (pc := 4) fg_X1_9 0 rfl rfl dX1_reset_4 ?_
      refine M.alenI (pc := 7) 1 rfl dX1_reset_7 ?_
      refine M.icmp_ge (pc := 8) (tgt := 50) dX1_reset_8 (by decide) (by omega) (by omega) (fun c8 => ?_) (fun c8 => ?_)
      · exact EV (_, _) _ _ _ dX1_reset_50 rfl (rfl) (rfl) (fun x h0 h1 => hq x h0 (by omega))
      · refine M.iloadn (pc := 11) 2 rfl rfl dX1_reset_11 ?_
        refine M.aloadn (pc := 12) 0 rfl rfl dX1_reset_12 ?_
        refine M.getf (pc := 13) fg_X1_15 0 rfl rfl dX1_reset_13 ?_
        refine M.alenI (pc := 16) 2 rfl dX1_reset_16 ?_
        refine M.icmp_ge (pc := 17) (tgt := 50) dX1_reset_17 (by decide) (by omega) (by omega) (fun c17 => ?_) (fun c17 => ?_)
        · exact EV (_, _) _ _ _ dX1_reset_50 rfl (rfl) (rfl) (fun x h0 h1 => hq x h0 (by omega))
        · refine M.aloadn (pc := 20) 0 rfl rfl dX1_reset_20 ?_
          refine M.getf (pc := 21) fg_X1_9 0 rfl rfl dX1_reset_21 ?_
          refine M.iloadn (pc := 24) 2 rfl rfl dX1_reset_24 ?_
          refine M.aloadn (pc := 25) 1 rfl rfl dX1_reset_25 ?_
          refine M.iloadn (pc := 26) 2 rfl rfl dX1_reset_26 ?_
          refine M.iconst (pc := 27) dX1_reset_27 ?_
          refine M.pV (pc := 28) (c_X3_ofBather  (by first | assumption | omega) (by first | assumption | omega)) mv_X1_71 [6, 7, 8] rfl rfl rfl 6 rfl rfl rfl rfl (Nat.le_of_ble_eq_true rfl) rfl ⟨(Nat.le_of_ble_eq_true rfl), (Nat.le_of_ble_eq_true rfl)⟩ ⟨(Nat.le_of_ble_eq_true rfl), (Nat.le_of_ble_eq_true rfl)⟩ rfl dX1_reset_28 ?_
          refine M.iast (pc := 31) 1 rfl (by omega) (by omega) dX1_reset_31 ?_
          dsimp only [List.set_cons_zero, List.set_cons_succ]
          refine M.aloadn (pc := 32) 0 rfl rfl dX1_reset_32 ?_
          refine M.getf (pc := 33) fg_X1_15 0 rfl rfl dX1_reset_33 ?_
          refine M.iloadn (pc := 36) 2 rfl rfl dX1_reset_36 ?_
          refine M.aloadn (pc := 37) 1 rfl rfl dX1_reset_37 ?_
          refine M.iloadn (pc := 38) 2 rfl rfl dX1_reset_38 ?_
          refine M.iconst (pc := 39) dX1_reset_39 ?_
          refine M.pV (pc := 40) (c_X3_ofBather  (by first | assumption | omega) (by first | assumption | omega)) mv_X1_71 [6, 7, 8] rfl rfl rfl 6 rfl rfl rfl rfl (Nat.le_of_ble_eq_true rfl) rfl ⟨(Nat.le_of_ble_eq_true rfl), (Nat.le_of_ble_eq_true rfl)⟩ ⟨(Nat.le_of_ble_eq_true rfl), (Nat.le_of_ble_eq_true rfl)⟩ rfl dX1_reset_40 ?_
          refine M.iast (pc := 43) 2 rfl (by omega) (by omega) dX1_reset_43 ?_
          dsimp only [List.set_cons_zero, List.set_cons_succ]
          refine M.iinc (pc := 44) (i := 2) rfl rfl dX1_reset_44 ?_
          dsimp only [List.set_cons_zero, List.set_cons_succ]
          refine M.goto (pc := 47) (tgt := 2) dX1_reset_47 (by decide) ?_
          exact ih2  (by first | assumption | omega) (by intro x h0 h1; by_cases e : x = k; subst e; rw [upZ_s, upZ_s]; exact ⟨rfl, rfl⟩; rw [upZ_n e, upZ_n e]; exact hq x h0 (by omega)) (by omega)
  exact L2 _  (by first | assumption | omega) (by intro x _ _; omega) (Nat.lt_succ_self _)
set_option maxHeartbeats 4000000 in
set_option maxRecDepth 100000 in
theorem c_X1_load {l : Launch} {G : GT} {e eLo eUp eSe eLe eGr : Nat} {gl gu gs gL gG : Int → Int} {ecl : Bool} {h hb ht : Nat} {fb ft : Int → Int} {nb n od : Int} {r rc : Nat} {gm : Int → Int} {c : Int} (hB : HB fb) (hnb : 0 ≤ nb ∧ nb ≤ 2) (hn : 0 ≤ n ∧ n ≤ 6) (hc : 0 ≤ c ∧ c ≤ 12) (hM : HM gm c nb n) : Con l G yX1_load cX1_load 7 none { frames := 3, cells := 0, slots := 0, locals := 69 } [.ref e, .ref h, .ref r] [(e, eO 1 [.ref eLo, .ref eUp, .ref eSe, .ref eLe, .ref eGr, .int (iI (pI (ecl = true)))]), (eLo, eI G 6 gl), (eUp, eI G 6 gu), (eSe, eI G 12 gs), (eLe, eI G 12 gL), (eGr, eI G 12 gG), (h, eO 3 [.ref hb, .ref ht, .int (iI nb), .int (iI n), .int (iI od)]), (hb, eI G 8 fb), (ht, eI G 24 ft), (r, eO 6 [.ref rc, .int (iI c)]), (rc, eI G 48 gm)] (S := (Int → Int) × (Int → Int) × (Int → Int)) (fun _ => none) (fun u => [(e, eO 1 [.ref eLo, .ref eUp, .ref eSe, .ref eLe, .ref eGr, .int (iI (pI (ecl = true)))]), (eLo, eI G 6 gl), (eUp, eI G 6 gu), (eSe, eI G 12 u.1), (eLe, eI G 12 u.2.1), (eGr, eI G 12 u.2.2), (h, eO 3 [.ref hb, .ref ht, .int (iI nb), .int (iI n), .int (iI od)]), (hb, eI G 8 fb), (ht, eI G 24 ft), (r, eO 6 [.ref rc, .int (iI c)]), (rc, eI G 48 gm)]) (fun u => LD fb gm c u.1 u.2.1 u.2.2) := by
  refine Con.mk (by decide +kernel) [some (.ref e), some (.ref h), some (.ref r), none, none, none, none] rfl (Nat.le_of_ble_eq_true rfl) rfl ?_
  intro V M EI EL EV EA
  refine M.iconst (pc := 0) dX1_load_0 ?_
  refine M.istoren (pc := 1) 3 rfl (Nat.le_of_ble_eq_true rfl) rfl dX1_load_1 ?_
  dsimp only [List.set_cons_zero, List.set_cons_succ]
  have L2 : ∀ (fu : Nat) {k : Int} {s2 L2 G2 : Int → Int}, (0 ≤ k ∧ k ≤ 12) → (∀ x, 0 ≤ x → x < k → s2 x = cel gm c x 2 ∧ L2 x = hLea fb (cel gm c x 0) (cel gm c x 1) (cel gm c x 3) ∧ G2 x = hGre fb (cel gm c x 0) (cel gm c x 1) (cel gm c x 3)) → (12 - k).toNat < fu → V 0 0 2 [(e, eO 1 [.ref eLo, .ref eUp, .ref eSe, .ref eLe, .ref eGr, .int (iI (pI (ecl = true)))]), (eLo, eI G 6 gl), (eUp, eI G 6 gu), (eSe, eI G 12 s2), (eLe, eI G 12 L2), (eGr, eI G 12 G2), (h, eO 3 [.ref hb, .ref ht, .int (iI nb), .int (iI n), .int (iI od)]), (hb, eI G 8 fb), (ht, eI G 24 ft), (r, eO 6 [.ref rc, .int (iI c)]), (rc, eI G 48 gm)] [some (.ref e), some (.ref h), some (.ref r), some (.int (iI k)), none, none, none] [] := by
    intro fu
    induction fu with
    | zero => intro k s2 L2 G2 hk hq hm; exact absurd hm (Nat.not_lt_zero _)
    | succ fu ih2 =>
      intro k s2 L2 G2 hk hq hm2
      refine M.iloadn (pc := 2) 3 rfl rfl dX1_load_2 ?_
      refine M.aloadn (pc := 3) 0 rfl rfl dX1_load_3 ?_
      refine M.getf (pc := 4) fg_X1_18 0 rfl rfl dX1_load_4 ?_
      refine M.alenI (pc := 7) 3 rfl dX1_load_7 ?_
      refine M.icmp_ge (pc := 8) (tgt := 99) dX1_load_8 (by decide) (by omega) (by omega) (fun c8 => ?_) (fun c8 => ?_)
      · exact EV (_, _, _) _ _ _ dX1_load_99 rfl (rfl) (rfl) (fun x h0 h1 => hq x h0 (by omega))
      · refine M.iloadn (pc := 11) 3 rfl rfl dX1_load_11 ?_
        refine M.aloadn (pc := 12) 0 rfl rfl dX1_load_12 ?_
        refine M.getf (pc := 13) fg_X1_21 0 rfl rfl dX1_load_13 ?_
        refine M.alenI (pc := 16) 4 rfl dX1_load_16 ?_
        refine M.icmp_ge (pc := 17) (tgt := 99) dX1_load_17 (by decide) (by omega) (by omega) (fun c17 => ?_) (fun c17 => ?_)
        · exact EV (_, _, _) _ _ _ dX1_load_99 rfl (rfl) (rfl) (fun x h0 h1 => hq x h0 (by omega))
        · refine M.iloadn (pc := 20) 3 rfl rfl dX1_load_20 ?_
          refine M.aloadn (pc := 21) 0 rfl rfl dX1_load_21 ?_
          refine M.getf (pc := 22) fg_X1_24 0 rfl rfl dX1_load_22 ?_
          refine M.alenI (pc := 25) 5 rfl dX1_load_25 ?_
          refine M.icmp_ge (pc := 26) (tgt := 99) dX1_load_26 (by decide) (by omega) (by omega) (fun c26 => ?_) (fun c26 => ?_)
          · exact EV (_, _, _) _ _ _ dX1_load_99 rfl (rfl) (rfl) (fun x h0 h1 => hq x h0 (by omega))
          · have hcb := cel_b hM hnb.2 hn.2 hk.1
            refine M.aloadn (pc := 29) 2 rfl rfl dX1_load_29 ?_
            refine M.iloadn (pc := 30) 3 rfl rfl dX1_load_30 ?_
            refine M.pV (pc := 31) (c_X6_bathAt  (by first | assumption | omega) (by first | assumption | omega) (by first | assumption | omega)) mv_X1_49 [9, 10] rfl rfl rfl 9 rfl rfl rfl rfl (Nat.le_of_ble_eq_true rfl) rfl ⟨(Nat.le_of_ble_eq_true rfl), (Nat.le_of_ble_eq_true rfl)⟩ ⟨(Nat.le_of_ble_eq_true rfl), (Nat.le_of_ble_eq_true rfl)⟩ rfl dX1_load_31 ?_
            refine M.istore (pc := 34) (i := 4) (Nat.le_of_ble_eq_true rfl) rfl dX1_load_34 ?_
            dsimp only [List.set_cons_zero, List.set_cons_succ]
            refine M.aloadn (pc := 36) 2 rfl rfl dX1_load_36 ?_
            refine M.iloadn (pc := 37) 3 rfl rfl dX1_load_37 ?_
            refine M.pV (pc := 38) (c_X6_hourAt  (by first | assumption | omega) (by first | assumption | omega) (by first | assumption | omega)) mv_X1_53 [9, 10] rfl rfl rfl 9 rfl rfl rfl rfl (Nat.le_of_ble_eq_true rfl) rfl ⟨(Nat.le_of_ble_eq_true rfl), (Nat.le_of_ble_eq_true rfl)⟩ ⟨(Nat.le_of_ble_eq_true rfl), (Nat.le_of_ble_eq_true rfl)⟩ rfl dX1_load_38 ?_
            refine M.istore (pc := 41) (i := 5) (Nat.le_of_ble_eq_true rfl) rfl dX1_load_41 ?_
            dsimp only [List.set_cons_zero, List.set_cons_succ]
            refine M.aloadn (pc := 43) 2 rfl rfl dX1_load_43 ?_
            refine M.iloadn (pc := 44) 3 rfl rfl dX1_load_44 ?_
            refine M.pV (pc := 45) (c_X6_heightAt  (by first | assumption | omega) (by first | assumption | omega) (by first | assumption | omega)) mv_X1_56 [9, 10] rfl rfl rfl 9 rfl rfl rfl rfl (Nat.le_of_ble_eq_true rfl) rfl ⟨(Nat.le_of_ble_eq_true rfl), (Nat.le_of_ble_eq_true rfl)⟩ ⟨(Nat.le_of_ble_eq_true rfl), (Nat.le_of_ble_eq_true rfl)⟩ rfl dX1_load_45 ?_
            refine M.istore (pc := 48) (i := 6) (Nat.le_of_ble_eq_true rfl) rfl dX1_load_48 ?_
            dsimp only [List.set_cons_zero, List.set_cons_succ]
            refine M.aloadn (pc := 50) 0 rfl rfl dX1_load_50 ?_
            refine M.getf (pc := 51) fg_X1_18 0 rfl rfl dX1_load_51 ?_
            refine M.iloadn (pc := 54) 3 rfl rfl dX1_load_54 ?_
            refine M.aloadn (pc := 55) 2 rfl rfl dX1_load_55 ?_
            refine M.iloadn (pc := 56) 3 rfl rfl dX1_load_56 ?_
            refine M.pV (pc := 57) (c_X6_setAt  (by first | assumption | omega) (by first | assumption | omega) (by first | assumption | omega)) mv_X1_59 [9, 10] rfl rfl rfl 9 rfl rfl rfl rfl (Nat.le_of_ble_eq_true rfl) rfl ⟨(Nat.le_of_ble_eq_true rfl), (Nat.le_of_ble_eq_true rfl)⟩ ⟨(Nat.le_of_ble_eq_true rfl), (Nat.le_of_ble_eq_true rfl)⟩ rfl dX1_load_57 ?_
            refine M.iast (pc := 60) 3 rfl (by omega) (by omega) dX1_load_60 ?_
            dsimp only [List.set_cons_zero, List.set_cons_succ]
            refine M.aloadn (pc := 61) 0 rfl rfl dX1_load_61 ?_
            refine M.getf (pc := 62) fg_X1_21 0 rfl rfl dX1_load_62 ?_
            refine M.iloadn (pc := 65) 3 rfl rfl dX1_load_65 ?_
            refine M.aloadn (pc := 66) 1 rfl rfl dX1_load_66 ?_
            refine M.iload (pc := 67) (i := 4) rfl dX1_load_67 ?_
            refine M.iload (pc := 69) (i := 5) rfl dX1_load_69 ?_
            refine M.iload (pc := 71) (i := 6) rfl dX1_load_71 ?_
            refine M.pV (pc := 73) (c_X3_leastOf  (by first | assumption | omega) (by first | assumption | omega) (by first | assumption | omega) (by first | assumption | omega)) mv_X1_62 [6, 7, 8] rfl rfl rfl 6 rfl rfl rfl rfl (Nat.le_of_ble_eq_true rfl) rfl ⟨(Nat.le_of_ble_eq_true rfl), (Nat.le_of_ble_eq_true rfl)⟩ ⟨(Nat.le_of_ble_eq_true rfl), (Nat.le_of_ble_eq_true rfl)⟩ rfl dX1_load_73 ?_
            refine M.iast (pc := 76) 4 rfl (by omega) (by omega) dX1_load_76 ?_
            dsimp only [List.set_cons_zero, List.set_cons_succ]
            refine M.aloadn (pc := 77) 0 rfl rfl dX1_load_77 ?_
            refine M.getf (pc := 78) fg_X1_24 0 rfl rfl dX1_load_78 ?_
            refine M.iloadn (pc := 81) 3 rfl rfl dX1_load_81 ?_
            refine M.aloadn (pc := 82) 1 rfl rfl dX1_load_82 ?_
            refine M.iload (pc := 83) (i := 4) rfl dX1_load_83 ?_
            refine M.iload (pc := 85) (i := 5) rfl dX1_load_85 ?_
            refine M.iload (pc := 87) (i := 6) rfl dX1_load_87 ?_
            refine M.pV (pc := 89) (c_X3_greatestOf  (by first | assumption | omega) (by first | assumption | omega) (by first | assumption | omega) (by first | assumption | omega)) mv_X1_68 [6, 7, 8] rfl rfl rfl 6 rfl rfl rfl rfl (Nat.le_of_ble_eq_true rfl) rfl ⟨(Nat.le_of_ble_eq_true rfl), (Nat.le_of_ble_eq_true rfl)⟩ ⟨(Nat.le_of_ble_eq_true rfl), (Nat.le_of_ble_eq_true rfl)⟩ rfl dX1_load_89 ?_
            refine M.iast (pc := 92) 5 rfl (by omega) (by omega) dX1_load_92 ?_
            dsimp only [List.set_cons_zero, List.set_cons_succ]
            refine M.iinc (pc := 93) (i := 3) rfl rfl dX1_load_93 ?_
            dsimp only [List.set_cons_zero, List.set_cons_succ]
            refine M.goto (pc := 96) (tgt := 2) dX1_load_96 (by decide) ?_
            refine M.forget 4 ?_
            dsimp only [List.set_cons_zero, List.set_cons_succ]
            refine M.forget 5 ?_
            dsimp only [List.set_cons_zero, List.set_cons_succ]
            refine M.forget 6 ?_
            dsimp only [List.set_cons_zero, List.set_cons_succ]
            exact ih2  (by first | assumption | omega) (by intro x h0 h1; by_cases e : x = k; subst e; rw [upZ_s, upZ_s, upZ_s]; exact ⟨rfl, rfl, rfl⟩; rw [upZ_n e, upZ_n e, upZ_n e]; exact hq x h0 (by omega)) (by omega)
  exact L2 _  (by first | assumption | omega) (by intro x _ _; omega) (Nat.lt_succ_self _)
set_option maxHeartbeats 4000000 in
set_option maxRecDepth 100000 in
theorem c_X1_narrow {l : Launch} {G : GT} {e eLo eUp eSe eLe eGr : Nat} {gl gu gs gL gG : Int → Int} {ecl : Bool} {n c : Int} {Ue Ve Sm L Gm : Int → Int} {mi : Int} (hn : 0 ≤ n ∧ n ≤ 6) (hc : 0 ≤ c ∧ c ≤ 12) (hm : 0 ≤ mi ∧ mi < c) (hd : DA n c Sm L Gm gs gL gG) (hUV : ∀ k, 0 ≤ k → k < n → 0 ≤ Ue k ∧ Ve k ≤ 999) (hBx : Bx n Ue Ve gl gu) (hRG : RG gl gu) : Con l G yX1_narrow cX1_narrow 9 (some .int) { frames := 1, cells := 0, slots := 0, locals := 23 } [.ref e, .int (iI mi)] [(e, eO 1 [.ref eLo, .ref eUp, .ref eSe, .ref eLe, .ref eGr, .int (iI (pI (ecl = true)))]), (eLo, eI G 6 gl), (eUp, eI G 6 gu), (eSe, eI G 12 gs), (eLe, eI G 12 gL), (eGr, eI G 12 gG)] (S := Int × (Int → Int) × (Int → Int)) (fun u => some (.int (iI u.1))) (fun u => [(e, eO 1 [.ref eLo, .ref eUp, .ref eSe, .ref eLe, .ref eGr, .int (iI (pI (ecl = true)))]), (eLo, eI G 6 u.2.1), (eUp, eI G 6 u.2.2), (eSe, eI G 12 gs), (eLe, eI G 12 gL), (eGr, eI G 12 gG)]) (fun u => RG u.2.1 u.2.2 ∧ ((u.1 = 2 ∧ ∀ T, tb T mi = true → Enc n c Ue Ve Sm L Gm T gl gu → Cl n c Ue Ve Sm L Gm T) ∨ (u.1 = 0 ∧ u.2.1 = gl ∧ u.2.2 = gu ∧ Okm n Sm L Gm gl gu mi) ∨ (u.1 = 1 ∧ Bx n Ue Ve u.2.1 u.2.2 ∧ (∀ T, tb T mi = true → Enc n c Ue Ve Sm L Gm T gl gu → Enc n c Ue Ve Sm L Gm T u.2.1 u.2.2) ∧ wid u.2.1 u.2.2 < wid gl gu))) := by
  refine Con.mk (by decide +kernel) [some (.ref e), some (.int (iI mi)), none, none, none, none, none, none, none] rfl (Nat.le_of_ble_eq_true rfl) rfl ?_
  intro V M EI EL EV EA
  obtain ⟨d1, d2, d3, d4, d5, d6⟩ := hd mi hm.1 hm.2
  have hp6 := p2_6 hn.2
  have L65 : (0 ≤ Gm mi) → (¬ Bad Sm L Gm mi) → V 0 0 65 [(e, eO 1 [.ref eLo, .ref eUp, .ref eSe, .ref eLe, .ref eGr, .int (iI (pI (ecl = true)))]), (eLo, eI G 6 gl), (eUp, eI G 6 gu), (eSe, eI G 12 gs), (eLe, eI G 12 gL), (eGr, eI G 12 gG)] [some (.ref e), some (.int (iI mi)), some (.int (iI (Sm mi))), none, none, none, none, none, none] [] := by
    intro  hg0 hnb
    refine M.aloadn (pc := 65) 0 rfl rfl dX1_narrow_65 ?_
    refine M.getf (pc := 66) fg_X1_9 0 rfl rfl dX1_narrow_66 ?_
    refine M.iloadn (pc := 69) 2 rfl rfl dX1_narrow_69 ?_
    refine M.pS (pc := 70) (c_X1_sum  (by first | assumption | omega)) ms_X1_82 [1] rfl rfl rfl rfl (Nat.le_of_ble_eq_true rfl) rfl ⟨(Nat.le_of_ble_eq_true rfl), (Nat.le_of_ble_eq_true rfl)⟩ ⟨(Nat.le_of_ble_eq_true rfl), (Nat.le_of_ble_eq_true rfl)⟩ rfl dX1_narrow_70 ?_
    refine M.istoren (pc := 73) 3 rfl (Nat.le_of_ble_eq_true rfl) rfl dX1_narrow_73 ?_
    dsimp only [List.set_cons_zero, List.set_cons_succ]
    refine M.aloadn (pc := 74) 0 rfl rfl dX1_narrow_74 ?_
    refine M.getf (pc := 75) fg_X1_15 0 rfl rfl dX1_narrow_75 ?_
    refine M.iloadn (pc := 78) 2 rfl rfl dX1_narrow_78 ?_
    refine M.pS (pc := 79) (c_X1_sum  (by first | assumption | omega)) ms_X1_82 [2] rfl rfl rfl rfl (Nat.le_of_ble_eq_true rfl) rfl ⟨(Nat.le_of_ble_eq_true rfl), (Nat.le_of_ble_eq_true rfl)⟩ ⟨(Nat.le_of_ble_eq_true rfl), (Nat.le_of_ble_eq_true rfl)⟩ rfl dX1_narrow_79 ?_
    refine M.istore (pc := 82) (i := 4) (Nat.le_of_ble_eq_true rfl) rfl dX1_narrow_82 ?_
    dsimp only [List.set_cons_zero, List.set_cons_succ]
    refine M.iconst (pc := 84) dX1_narrow_84 ?_
    refine M.istore (pc := 85) (i := 5) (Nat.le_of_ble_eq_true rfl) rfl dX1_narrow_85 ?_
    dsimp only [List.set_cons_zero, List.set_cons_succ]
    refine M.iconst (pc := 87) dX1_narrow_87 ?_
    refine M.istore (pc := 88) (i := 6) (Nat.le_of_ble_eq_true rfl) rfl dX1_narrow_88 ?_
    dsimp only [List.set_cons_zero, List.set_cons_succ]
    have L90 : ∀ (fu : Nat) {k lows highs step : Int} {l u : Int → Int}, (0 ≤ k ∧ k ≤ 6) → (lows = sumT l (Sm mi) 6) → (highs = sumT u (Sm mi) 6) → (RG l u) → (Bx n Ue Ve l u) → (∀ T, tb T mi = true → Enc n c Ue Ve Sm L Gm T gl gu → Enc n c Ue Ve Sm L Gm T l u) → ((step = 0 ∧ l = gl ∧ u = gu ∧ ∀ k2, 0 ≤ k2 → k2 < k → tb (Sm mi) k2 = true → Cn Sm L Gm gl gu mi k2) ∨ (step = 1 ∧ wid l u < wid gl gu)) → (6 - k).toNat < fu → V 0 0 90 [(e, eO 1 [.ref eLo, .ref eUp, .ref eSe, .ref eLe, .ref eGr, .int (iI (pI (ecl = true)))]), (eLo, eI G 6 l), (eUp, eI G 6 u), (eSe, eI G 12 gs), (eLe, eI G 12 gL), (eGr, eI G 12 gG)] [some (.ref e), some (.int (iI mi)), some (.int (iI (Sm mi))), some (.int (iI lows)), some (.int (iI highs)), some (.int (iI step)), some (.int (iI k)), none, none] [] := by
      intro fu
      induction fu with
      | zero => intro k lows highs step l u hk hlows hhighs hr hB hE hst hm; exact absurd hm (Nat.not_lt_zero _)
      | succ fu ih90 =>
        intro k lows highs step l u hk hlows hhighs hr hB hE hst hm90
        refine M.iload (pc := 90) (i := 6) rfl dX1_narrow_90 ?_
        refine M.aloadn (pc := 92) 0 rfl rfl dX1_narrow_92 ?_
        refine M.getf (pc := 93) fg_X1_9 0 rfl rfl dX1_narrow_93 ?_
        refine M.alenI (pc := 96) 1 rfl dX1_narrow_96 ?_
        refine M.icmp_ge (pc := 97) (tgt := 267) dX1_narrow_97 (by decide) (by omega) (by omega) (fun c97 => ?_) (fun c97 => ?_)
        · refine M.iload (pc := 267) (i := 5) rfl dX1_narrow_267 ?_
          exact EI (step, l, u) _ _ _ _ dX1_narrow_269 (Or.inl rfl) (rfl) (rfl) (⟨hr, Or.inr (hst.imp (fun z => ⟨z.1, z.2.1, z.2.2.1, hnb, fun k2 h0 h1 ht => z.2.2.2 k2 h0 (by omega) ht⟩) (fun z => ⟨z.1, hB, hE, z.2⟩))⟩)
        · refine M.iload (pc := 100) (i := 6) rfl dX1_narrow_100 ?_
          refine M.aloadn (pc := 102) 0 rfl rfl dX1_narrow_102 ?_
          refine M.getf (pc := 103) fg_X1_15 0 rfl rfl dX1_narrow_103 ?_
          refine M.alenI (pc := 106) 2 rfl dX1_narrow_106 ?_
          refine M.icmp_ge (pc := 107) (tgt := 267) dX1_narrow_107 (by decide) (by omega) (by omega) (fun c107 => ?_) (fun c107 => ?_)
          · refine M.iload (pc := 267) (i := 5) rfl dX1_narrow_267 ?_
            exact EI (step, l, u) _ _ _ _ dX1_narrow_269 (Or.inl rfl) (rfl) (rfl) (⟨hr, Or.inr (hst.imp (fun z => ⟨z.1, z.2.1, z.2.2.1, hnb, fun k2 h0 h1 ht => z.2.2.2 k2 h0 (by omega) ht⟩) (fun z => ⟨z.1, hB, hE, z.2⟩))⟩)
          · have L261 : ∀ {lows2 highs2 step2 : Int} {l2 u2 : Int → Int}, (lows2 = sumT l2 (Sm mi) 6) → (highs2 = sumT u2 (Sm mi) 6) → (RG l2 u2) → (Bx n Ue Ve l2 u2) → (∀ T, tb T mi = true → Enc n c Ue Ve Sm L Gm T gl gu → Enc n c Ue Ve Sm L Gm T l2 u2) → ((step2 = 0 ∧ l2 = gl ∧ u2 = gu ∧ ∀ k2, 0 ≤ k2 → k2 < k + 1 → tb (Sm mi) k2 = true → Cn Sm L Gm gl gu mi k2) ∨ (step2 = 1 ∧ wid l2 u2 < wid gl gu)) → V 0 0 261 [(e, eO 1 [.ref eLo, .ref eUp, .ref eSe, .ref eLe, .ref eGr, .int (iI (pI (ecl = true)))]), (eLo, eI G 6 l2), (eUp, eI G 6 u2), (eSe, eI G 12 gs), (eLe, eI G 12 gL), (eGr, eI G 12 gG)] [some (.ref e), some (.int (iI mi)), some (.int (iI (Sm mi))), some (.int (iI lows2)), some (.int (iI highs2)), some (.int (iI step2)), some (.int (iI k)), none, none] [] := by
              intro lows2 highs2 step2 l2 u2 hlows2 hhighs2 hrx hBx2 hEx hst
              refine M.iinc (pc := 261) (i := 6) rfl rfl dX1_narrow_261 ?_
              dsimp only [List.set_cons_zero, List.set_cons_succ]
              refine M.goto (pc := 264) (tgt := 90) dX1_narrow_264 (by decide) ?_
              exact ih90  (by first | assumption | omega) (by first | assumption | omega) (by first | assumption | omega) (by first | assumption | omega) (by first | assumption | omega) (by first | assumption | omega) (by first | assumption | omega) (by omega)
            refine M.iloadn (pc := 110) 2 rfl rfl dX1_narrow_110 ?_
            refine M.iload (pc := 111) (i := 6) rfl dX1_narrow_111 ?_
            refine M.pSN (pc := 113) (c_X7_has  (by first | assumption | omega) (by first | assumption | omega) (by first | assumption | omega) (by first | assumption | omega)) ms_X1_75 [] rfl rfl rfl rfl (Nat.le_of_ble_eq_true rfl) rfl ⟨(Nat.le_of_ble_eq_true rfl), (Nat.le_of_ble_eq_true rfl)⟩ ⟨(Nat.le_of_ble_eq_true rfl), (Nat.le_of_ble_eq_true rfl)⟩ rfl dX1_narrow_113 ?_
            refine M.if_neP (pc := 116) (tgt := 122) dX1_narrow_116 (by decide) (fun c116 => ?_) (fun c116 => ?_)
            · have hkn : k < n := by
                rcases (by omega : k < n ∨ n ≤ k) with z | z
                · exact z
                · rw [tb_lt d4.1 d4.2 z hn.1] at c116
                  exact absurd c116 (by decide)
              have hb1 := hB k hk.1 hkn
              have hr1 := hr k hk.1 (by omega)
              have hr3 := hr.l.s (Sm mi)
              have hr4 := hr.u.s (Sm mi)
              have e1 : gL mi = L mi := by rw [d2, if_neg (by omega)]
              have e2 : gG mi = Gm mi := by omega
              refine M.aloadn (pc := 122) 0 rfl rfl dX1_narrow_122 ?_
              refine M.getf (pc := 123) fg_X1_9 0 rfl rfl dX1_narrow_123 ?_
              refine M.iload (pc := 126) (i := 6) rfl dX1_narrow_126 ?_
              refine M.iald (pc := 128) 1 rfl (by omega) (by omega) dX1_narrow_128 ?_
              refine M.aloadn (pc := 129) 0 rfl rfl dX1_narrow_129 ?_
              refine M.getf (pc := 130) fg_X1_21 0 rfl rfl dX1_narrow_130 ?_
              refine M.iloadn (pc := 133) 1 rfl rfl dX1_narrow_133 ?_
              refine M.iald (pc := 134) 4 rfl (by omega) (by omega) dX1_narrow_134 ?_
              refine M.iload (pc := 135) (i := 4) rfl dX1_narrow_135 ?_
              refine M.aloadn (pc := 137) 0 rfl rfl dX1_narrow_137 ?_
              refine M.getf (pc := 138) fg_X1_15 0 rfl rfl dX1_narrow_138 ?_
              refine M.iload (pc := 141) (i := 6) rfl dX1_narrow_141 ?_
              refine M.iald (pc := 143) 2 rfl (by omega) (by omega) dX1_narrow_143 ?_
              refine M.isub (pc := 144) dX1_narrow_144 ?_
              refine M.isub (pc := 145) dX1_narrow_145 ?_
              refine M.max (pc := 146) ml_X1_86 (by omega) (by omega) rfl ⟨(Nat.le_of_ble_eq_true rfl), (Nat.le_of_ble_eq_true rfl), (Nat.le_of_ble_eq_true rfl), (Nat.le_of_ble_eq_true rfl)⟩ dX1_narrow_146 ?_
              refine M.istore (pc := 149) (i := 7) (Nat.le_of_ble_eq_true rfl) rfl dX1_narrow_149 ?_
              dsimp only [List.set_cons_zero, List.set_cons_succ]
              generalize hlo : Max.max (l k) (gL mi - (highs - u k)) = lo
              refine M.aloadn (pc := 151) 0 rfl rfl dX1_narrow_151 ?_
              refine M.getf (pc := 152) fg_X1_15 0 rfl rfl dX1_narrow_152 ?_
              refine M.iload (pc := 155) (i := 6) rfl dX1_narrow_155 ?_
              refine M.iald (pc := 157) 2 rfl (by omega) (by omega) dX1_narrow_157 ?_
              refine M.aloadn (pc := 158) 0 rfl rfl dX1_narrow_158 ?_
              refine M.getf (pc := 159) fg_X1_24 0 rfl rfl dX1_narrow_159 ?_
              refine M.iloadn (pc := 162) 1 rfl rfl dX1_narrow_162 ?_
              refine M.iald (pc := 163) 5 rfl (by omega) (by omega) dX1_narrow_163 ?_
              refine M.iloadn (pc := 164) 3 rfl rfl dX1_narrow_164 ?_
              refine M.aloadn (pc := 165) 0 rfl rfl dX1_narrow_165 ?_
              refine M.getf (pc := 166) fg_X1_9 0 rfl rfl dX1_narrow_166 ?_
              refine M.iload (pc := 169) (i := 6) rfl dX1_narrow_169 ?_
              refine M.iald (pc := 171) 1 rfl (by omega) (by omega) dX1_narrow_171 ?_
              refine M.isub (pc := 172) dX1_narrow_172 ?_
              refine M.isub (pc := 173) dX1_narrow_173 ?_
              refine M.min (pc := 174) ml_X1_91 (by omega) (by omega) rfl ⟨(Nat.le_of_ble_eq_true rfl), (Nat.le_of_ble_eq_true rfl), (Nat.le_of_ble_eq_true rfl), (Nat.le_of_ble_eq_true rfl)⟩ dX1_narrow_174 ?_
              refine M.istore (pc := 177) (i := 8) (Nat.le_of_ble_eq_true rfl) rfl dX1_narrow_177 ?_
              dsimp only [List.set_cons_zero, List.set_cons_succ]
              generalize hhi : Min.min (u k) (gG mi - (lows - l k)) = hi
              refine M.iload (pc := 179) (i := 7) rfl dX1_narrow_179 ?_
              refine M.iload (pc := 181) (i := 8) rfl dX1_narrow_181 ?_
              refine M.icmp_le (pc := 183) (tgt := 188) dX1_narrow_183 (by decide) (by omega) (by omega) (fun c183 => ?_) (fun c183 => ?_)
              · refine M.iload (pc := 188) (i := 7) rfl dX1_narrow_188 ?_
                refine M.aloadn (pc := 190) 0 rfl rfl dX1_narrow_190 ?_
                refine M.getf (pc := 191) fg_X1_9 0 rfl rfl dX1_narrow_191 ?_
                refine M.iload (pc := 194) (i := 6) rfl dX1_narrow_194 ?_
                refine M.iald (pc := 196) 1 rfl (by omega) (by omega) dX1_narrow_196 ?_
                refine M.icmp_ne (pc := 197) (tgt := 212) dX1_narrow_197 (by decide) (by omega) (by omega) (fun c197 => ?_) (fun c197 => ?_)
                · have hr2 : RG (upZ l k lo) (upZ u k hi) := hr.up (by omega) (by omega)
                  have hB2 : Bx n Ue Ve (upZ l k lo) (upZ u k hi) := hB.up (by omega)
                  have hE2 : ∀ T, tb T mi = true → Enc n c Ue Ve Sm L Gm T gl gu → Enc n c Ue Ve Sm L Gm T (upZ l k lo) (upZ u k hi) := fun T hT h0 => (hE T hT h0).up hT hm ⟨hk.1, hkn⟩ hn.2 c116 d4 (by rw [← hlo, e1, hhighs]) (by rw [← hhi, e2, hlows])
                  have hw2 : wid (upZ l k lo) (upZ u k hi) < wid l u := by rw [wid_up hk.1 (by omega)]; omega
                  refine M.iconst (pc := 212) dX1_narrow_212 ?_
                  refine M.istore (pc := 213) (i := 5) (Nat.le_of_ble_eq_true rfl) rfl dX1_narrow_213 ?_
                  dsimp only [List.set_cons_zero, List.set_cons_succ]
                  refine M.iloadn (pc := 215) 3 rfl rfl dX1_narrow_215 ?_
                  refine M.iload (pc := 216) (i := 7) rfl dX1_narrow_216 ?_
                  refine M.aloadn (pc := 218) 0 rfl rfl dX1_narrow_218 ?_
                  refine M.getf (pc := 219) fg_X1_9 0 rfl rfl dX1_narrow_219 ?_
                  refine M.iload (pc := 222) (i := 6) rfl dX1_narrow_222 ?_
                  refine M.iald (pc := 224) 1 rfl (by omega) (by omega) dX1_narrow_224 ?_
                  refine M.isub (pc := 225) dX1_narrow_225 ?_
                  refine M.iadd (pc := 226) dX1_narrow_226 ?_
                  refine M.istoren (pc := 227) 3 rfl (Nat.le_of_ble_eq_true rfl) rfl dX1_narrow_227 ?_
                  dsimp only [List.set_cons_zero, List.set_cons_succ]
                  refine M.iload (pc := 228) (i := 4) rfl dX1_narrow_228 ?_
                  refine M.iload (pc := 230) (i := 8) rfl dX1_narrow_230 ?_
                  refine M.aloadn (pc := 232) 0 rfl rfl dX1_narrow_232 ?_
                  refine M.getf (pc := 233) fg_X1_15 0 rfl rfl dX1_narrow_233 ?_
                  refine M.iload (pc := 236) (i := 6) rfl dX1_narrow_236 ?_
                  refine M.iald (pc := 238) 2 rfl (by omega) (by omega) dX1_narrow_238 ?_
                  refine M.isub (pc := 239) dX1_narrow_239 ?_
                  refine M.iadd (pc := 240) dX1_narrow_240 ?_
                  refine M.istore (pc := 241) (i := 4) (Nat.le_of_ble_eq_true rfl) rfl dX1_narrow_241 ?_
                  dsimp only [List.set_cons_zero, List.set_cons_succ]
                  refine M.aloadn (pc := 243) 0 rfl rfl dX1_narrow_243 ?_
                  refine M.getf (pc := 244) fg_X1_9 0 rfl rfl dX1_narrow_244 ?_
                  refine M.iload (pc := 247) (i := 6) rfl dX1_narrow_247 ?_
                  refine M.iload (pc := 249) (i := 7) rfl dX1_narrow_249 ?_
                  refine M.iast (pc := 251) 1 rfl (by omega) (by omega) dX1_narrow_251 ?_
                  dsimp only [List.set_cons_zero, List.set_cons_succ]
                  refine M.aloadn (pc := 252) 0 rfl rfl dX1_narrow_252 ?_
                  refine M.getf (pc := 253) fg_X1_15 0 rfl rfl dX1_narrow_253 ?_
                  refine M.iload (pc := 256) (i := 6) rfl dX1_narrow_256 ?_
                  refine M.iload (pc := 258) (i := 8) rfl dX1_narrow_258 ?_
                  refine M.iast (pc := 260) 2 rfl (by omega) (by omega) dX1_narrow_260 ?_
                  dsimp only [List.set_cons_zero, List.set_cons_succ]
                  refine M.forget 7 ?_
                  dsimp only [List.set_cons_zero, List.set_cons_succ]
                  refine M.forget 8 ?_
                  dsimp only [List.set_cons_zero, List.set_cons_succ]
                  have hstC : wid (upZ l k lo) (upZ u k hi) < wid gl gu := by
                    rcases hst with ⟨_, e3, e4, _⟩ | ⟨_, e3⟩
                    · rw [← e3, ← e4]; exact hw2
                    · omega
                  have hlC : lows + (lo - l k) = sumT (upZ l k lo) (Sm mi) 6 := by rw [sumT_up hk.1, if_pos ⟨by omega, c116⟩]; omega
                  have hhC : highs + (hi - u k) = sumT (upZ u k hi) (Sm mi) 6 := by rw [sumT_up hk.1, if_pos ⟨by omega, c116⟩]; omega
                  exact L261  (by first | assumption | omega) (by first | assumption | omega) (by first | assumption | omega) (by first | assumption | omega) (by first | assumption | omega) (by exact Or.inr ⟨rfl, hstC⟩)
                · refine M.iload (pc := 200) (i := 8) rfl dX1_narrow_200 ?_
                  refine M.aloadn (pc := 202) 0 rfl rfl dX1_narrow_202 ?_
                  refine M.getf (pc := 203) fg_X1_15 0 rfl rfl dX1_narrow_203 ?_
                  refine M.iload (pc := 206) (i := 6) rfl dX1_narrow_206 ?_
                  refine M.iald (pc := 208) 2 rfl (by omega) (by omega) dX1_narrow_208 ?_
                  refine M.icmp_eq (pc := 209) (tgt := 261) dX1_narrow_209 (by decide) (by omega) (by omega) (fun c209 => ?_) (fun c209 => ?_)
                  · refine M.forget 7 ?_
                    dsimp only [List.set_cons_zero, List.set_cons_succ]
                    refine M.forget 8 ?_
                    dsimp only [List.set_cons_zero, List.set_cons_succ]
                    have hstB : (step = 0 ∧ l = gl ∧ u = gu ∧ ∀ k2, 0 ≤ k2 → k2 < k + 1 → tb (Sm mi) k2 = true → Cn Sm L Gm gl gu mi k2) ∨ (step = 1 ∧ wid l u < wid gl gu) := by
                      refine hst.imp (fun z => ⟨z.1, z.2.1, z.2.2.1, fun k2 h0 h1 ht => ?_⟩) id
                      rcases (by omega : k2 < k ∨ k2 = k) with q | q
                      · exact z.2.2.2 k2 h0 q ht
                      · obtain ⟨_, z2, z3, _⟩ := z
                        subst q
                        rw [← z2, ← z3]
                        unfold Cn
                        omega
                    exact L261  (by first | assumption | omega) (by first | assumption | omega) (by first | assumption | omega) (by first | assumption | omega) (by first | assumption | omega) (by first | assumption | omega)
                  · have hr2 : RG (upZ l k lo) (upZ u k hi) := hr.up (by omega) (by omega)
                    have hB2 : Bx n Ue Ve (upZ l k lo) (upZ u k hi) := hB.up (by omega)
                    have hE2 : ∀ T, tb T mi = true → Enc n c Ue Ve Sm L Gm T gl gu → Enc n c Ue Ve Sm L Gm T (upZ l k lo) (upZ u k hi) := fun T hT h0 => (hE T hT h0).up hT hm ⟨hk.1, hkn⟩ hn.2 c116 d4 (by rw [← hlo, e1, hhighs]) (by rw [← hhi, e2, hlows])
                    have hw2 : wid (upZ l k lo) (upZ u k hi) < wid l u := by rw [wid_up hk.1 (by omega)]; omega
                    refine M.iconst (pc := 212) dX1_narrow_212 ?_
                    refine M.istore (pc := 213) (i := 5) (Nat.le_of_ble_eq_true rfl) rfl dX1_narrow_213 ?_
                    dsimp only [List.set_cons_zero, List.set_cons_succ]
                    refine M.iloadn (pc := 215) 3 rfl rfl dX1_narrow_215 ?_
                    refine M.iload (pc := 216) (i := 7) rfl dX1_narrow_216 ?_
                    refine M.aloadn (pc := 218) 0 rfl rfl dX1_narrow_218 ?_
                    refine M.getf (pc := 219) fg_X1_9 0 rfl rfl dX1_narrow_219 ?_
                    refine M.iload (pc := 222) (i := 6) rfl dX1_narrow_222 ?_
                    refine M.iald (pc := 224) 1 rfl (by omega) (by omega) dX1_narrow_224 ?_
                    refine M.isub (pc := 225) dX1_narrow_225 ?_
                    refine M.iadd (pc := 226) dX1_narrow_226 ?_
                    refine M.istoren (pc := 227) 3 rfl (Nat.le_of_ble_eq_true rfl) rfl dX1_narrow_227 ?_
                    dsimp only [List.set_cons_zero, List.set_cons_succ]
                    refine M.iload (pc := 228) (i := 4) rfl dX1_narrow_228 ?_
                    refine M.iload (pc := 230) (i := 8) rfl dX1_narrow_230 ?_
                    refine M.aloadn (pc := 232) 0 rfl rfl dX1_narrow_232 ?_
                    refine M.getf (pc := 233) fg_X1_15 0 rfl rfl dX1_narrow_233 ?_
                    refine M.iload (pc := 236) (i := 6) rfl dX1_narrow_236 ?_
                    refine M.iald (pc := 238) 2 rfl (by omega) (by omega) dX1_narrow_238 ?_
                    refine M.isub (pc := 239) dX1_narrow_239 ?_
                    refine M.iadd (pc := 240) dX1_narrow_240 ?_
                    refine M.istore (pc := 241) (i := 4) (Nat.le_of_ble_eq_true rfl) rfl dX1_narrow_241 ?_
                    dsimp only [List.set_cons_zero, List.set_cons_succ]
                    refine M.aloadn (pc := 243) 0 rfl rfl dX1_narrow_243 ?_
                    refine M.getf (pc := 244) fg_X1_9 0 rfl rfl dX1_narrow_244 ?_
                    refine M.iload (pc := 247) (i := 6) rfl dX1_narrow_247 ?_
                    refine M.iload (pc := 249) (i := 7) rfl dX1_narrow_249 ?_
                    refine M.iast (pc := 251) 1 rfl (by omega) (by omega) dX1_narrow_251 ?_
                    dsimp only [List.set_cons_zero, List.set_cons_succ]
                    refine M.aloadn (pc := 252) 0 rfl rfl dX1_narrow_252 ?_
                    refine M.getf (pc := 253) fg_X1_15 0 rfl rfl dX1_narrow_253 ?_
                    refine M.iload (pc := 256) (i := 6) rfl dX1_narrow_256 ?_
                    refine M.iload (pc := 258) (i := 8) rfl dX1_narrow_258 ?_
                    refine M.iast (pc := 260) 2 rfl (by omega) (by omega) dX1_narrow_260 ?_
                    dsimp only [List.set_cons_zero, List.set_cons_succ]
                    refine M.forget 7 ?_
                    dsimp only [List.set_cons_zero, List.set_cons_succ]
                    refine M.forget 8 ?_
                    dsimp only [List.set_cons_zero, List.set_cons_succ]
                    have hstC : wid (upZ l k lo) (upZ u k hi) < wid gl gu := by
                      rcases hst with ⟨_, e3, e4, _⟩ | ⟨_, e3⟩
                      · rw [← e3, ← e4]; exact hw2
                      · omega
                    have hlC : lows + (lo - l k) = sumT (upZ l k lo) (Sm mi) 6 := by rw [sumT_up hk.1, if_pos ⟨by omega, c116⟩]; omega
                    have hhC : highs + (hi - u k) = sumT (upZ u k hi) (Sm mi) 6 := by rw [sumT_up hk.1, if_pos ⟨by omega, c116⟩]; omega
                    exact L261  (by first | assumption | omega) (by first | assumption | omega) (by first | assumption | omega) (by first | assumption | omega) (by first | assumption | omega) (by exact Or.inr ⟨rfl, hstC⟩)
              · refine M.iconst (pc := 186) dX1_narrow_186 ?_
                exact EI (2, l, u) _ _ _ _ dX1_narrow_187 (Or.inl rfl) (rfl) (rfl) (⟨hr, Or.inl ⟨rfl, fun T hT h0 => Enc.clash (k := k) ((hE T hT h0).up (a := lo) (b := hi) hT hm ⟨hk.1, hkn⟩ hn.2 c116 d4 (by rw [← hlo, e1, hhighs]) (by rw [← hhi, e2, hlows])) ⟨hk.1, hkn⟩ (by rw [upZ_s, upZ_s]; omega)⟩⟩)
            · refine M.goto (pc := 119) (tgt := 261) dX1_narrow_119 (by decide) ?_
              have hstA : (step = 0 ∧ l = gl ∧ u = gu ∧ ∀ k2, 0 ≤ k2 → k2 < k + 1 → tb (Sm mi) k2 = true → Cn Sm L Gm gl gu mi k2) ∨ (step = 1 ∧ wid l u < wid gl gu) := by
                refine hst.imp (fun z => ⟨z.1, z.2.1, z.2.2.1, fun k2 h0 h1 ht => ?_⟩) id
                rcases (by omega : k2 < k ∨ k2 = k) with q | q
                · exact z.2.2.2 k2 h0 q ht
                · subst q; exact absurd ht c116
              exact L261  (by first | assumption | omega) (by first | assumption | omega) (by first | assumption | omega) (by first | assumption | omega) (by first | assumption | omega) (by first | assumption | omega)
    exact L90 _  (by first | assumption | omega) (by rfl) (by rfl) (by first | assumption | omega) (by first | assumption | omega) (by exact fun T _ h => h) (by exact Or.inl ⟨rfl, rfl, rfl, fun k2 _ _ _ => by omega⟩) (Nat.lt_succ_self _)
  refine M.iloadn (pc := 0) 1 rfl rfl dX1_narrow_0 ?_
  refine M.if_lt (pc := 1) (tgt := 31) dX1_narrow_1 (by decide) (by omega) (fun c1 => ?_) (fun c1 => ?_)
  · exact absurd c1 (by omega)
  · refine M.iloadn (pc := 4) 1 rfl rfl dX1_narrow_4 ?_
    refine M.aloadn (pc := 5) 0 rfl rfl dX1_narrow_5 ?_
    refine M.getf (pc := 6) fg_X1_18 0 rfl rfl dX1_narrow_6 ?_
    refine M.alenI (pc := 9) 3 rfl dX1_narrow_9 ?_
    refine M.icmp_ge (pc := 10) (tgt := 31) dX1_narrow_10 (by decide) (by omega) (by omega) (fun c10 => ?_) (fun c10 => ?_)
    · exact absurd c10 (by omega)
    · refine M.iloadn (pc := 13) 1 rfl rfl dX1_narrow_13 ?_
      refine M.aloadn (pc := 14) 0 rfl rfl dX1_narrow_14 ?_
      refine M.getf (pc := 15) fg_X1_21 0 rfl rfl dX1_narrow_15 ?_
      refine M.alenI (pc := 18) 4 rfl dX1_narrow_18 ?_
      refine M.icmp_ge (pc := 19) (tgt := 31) dX1_narrow_19 (by decide) (by omega) (by omega) (fun c19 => ?_) (fun c19 => ?_)
      · exact absurd c19 (by omega)
      · refine M.iloadn (pc := 22) 1 rfl rfl dX1_narrow_22 ?_
        refine M.aloadn (pc := 23) 0 rfl rfl dX1_narrow_23 ?_
        refine M.getf (pc := 24) fg_X1_24 0 rfl rfl dX1_narrow_24 ?_
        refine M.alenI (pc := 27) 5 rfl dX1_narrow_27 ?_
        refine M.icmp_lt (pc := 28) (tgt := 33) dX1_narrow_28 (by decide) (by omega) (by omega) (fun c28 => ?_) (fun c28 => ?_)
        · refine M.aloadn (pc := 33) 0 rfl rfl dX1_narrow_33 ?_
          refine M.getf (pc := 34) fg_X1_18 0 rfl rfl dX1_narrow_34 ?_
          refine M.iloadn (pc := 37) 1 rfl rfl dX1_narrow_37 ?_
          refine M.iald (pc := 38) 3 rfl (by omega) (by omega) dX1_narrow_38 ?_
          rw [d1]
          refine M.istoren (pc := 39) 2 rfl (Nat.le_of_ble_eq_true rfl) rfl dX1_narrow_39 ?_
          dsimp only [List.set_cons_zero, List.set_cons_succ]
          refine M.aloadn (pc := 40) 0 rfl rfl dX1_narrow_40 ?_
          refine M.getf (pc := 41) fg_X1_21 0 rfl rfl dX1_narrow_41 ?_
          refine M.iloadn (pc := 44) 1 rfl rfl dX1_narrow_44 ?_
          refine M.iald (pc := 45) 4 rfl (by omega) (by omega) dX1_narrow_45 ?_
          refine M.iconst (pc := 46) dX1_narrow_46 ?_
          refine M.icmp_eq (pc := 47) (tgt := 63) dX1_narrow_47 (by decide) (by omega) (by omega) (fun c47 => ?_) (fun c47 => ?_)
          · refine M.iconst (pc := 63) dX1_narrow_63 ?_
            exact EI (2, gl, gu) _ _ _ _ dX1_narrow_64 (Or.inl rfl) (rfl) (rfl) (⟨hRG, Or.inl ⟨rfl, fun T hT _ => Bad.clash hm hT (by unfold Bad; omega)⟩⟩)
          · refine M.iloadn (pc := 50) 2 rfl rfl dX1_narrow_50 ?_
            refine M.if_ne (pc := 51) (tgt := 65) dX1_narrow_51 (by decide) (by omega) (fun c51 => ?_) (fun c51 => ?_)
            · exact L65  (by omega) (by unfold Bad; omega)
            · refine M.aloadn (pc := 54) 0 rfl rfl dX1_narrow_54 ?_
              refine M.getf (pc := 55) fg_X1_21 0 rfl rfl dX1_narrow_55 ?_
              refine M.iloadn (pc := 58) 1 rfl rfl dX1_narrow_58 ?_
              refine M.iald (pc := 59) 4 rfl (by omega) (by omega) dX1_narrow_59 ?_
              refine M.if_eq (pc := 60) (tgt := 65) dX1_narrow_60 (by decide) (by omega) (fun c60 => ?_) (fun c60 => ?_)
              · exact L65  (by omega) (by unfold Bad; omega)
              · refine M.iconst (pc := 63) dX1_narrow_63 ?_
                exact EI (2, gl, gu) _ _ _ _ dX1_narrow_64 (Or.inl rfl) (rfl) (rfl) (⟨hRG, Or.inl ⟨rfl, fun T hT _ => Bad.clash hm hT (by unfold Bad; omega)⟩⟩)
        · exact absurd c28 (by omega)
theorem p2_12 {k : Int} (h1 : k ≤ 12) : 1 ≤ p2 k ∧ p2 k ≤ 4096 := by
  have h : ∀ n, n ≤ 12 → 1 ≤ 2 ^ n ∧ 2 ^ n ≤ 4096 := by decide +kernel
  have h := h k.toNat (by omega)
  unfold p2
  generalize 2 ^ k.toNat = m at h ⊢
  omega
set_option maxHeartbeats 4000000 in
set_option maxRecDepth 100000 in
theorem c_X1_stands {l : Launch} {G : GT} {e eLo eUp eSe eLe eGr : Nat} {gl gu gs gL gG : Int → Int} {ecl : Bool} {h hb ht : Nat} {fb ft : Int → Int} {nb n od : Int} {c : Int} {Sm L Gm : Int → Int} {T : Int} (hT : HT ft) (hn : 0 ≤ n ∧ n ≤ 6) (hc : 0 ≤ c ∧ c ≤ 12) (hU : ∀ k, 0 ≤ k → k < n → ft (k * 4 + 0) ≤ ft (k * 4 + 1)) (hd : DA n c Sm L Gm gs gL gG) (hTT : 0 ≤ T ∧ T < p2 c) : Con l G yX1_stands cX1_stands 7 (some .boolean) { frames := 2, cells := 0, slots := 0, locals := 51 } [.ref e, .ref h, .int (iI T)] [(e, eO 1 [.ref eLo, .ref eUp, .ref eSe, .ref eLe, .ref eGr, .int (iI (pI (ecl = true)))]), (eLo, eI G 6 gl), (eUp, eI G 6 gu), (eSe, eI G 12 gs), (eLe, eI G 12 gL), (eGr, eI G 12 gG), (h, eO 3 [.ref hb, .ref ht, .int (iI nb), .int (iI n), .int (iI od)]), (hb, eI G 8 fb), (ht, eI G 24 ft)] (S := Bool × (Int → Int) × (Int → Int)) (fun u => some (.int (iI (pI (u.1 = true))))) (fun u => [(e, eO 1 [.ref eLo, .ref eUp, .ref eSe, .ref eLe, .ref eGr, .int (iI (pI (ecl = true)))]), (eLo, eI G 6 u.2.1), (eUp, eI G 6 u.2.2), (eSe, eI G 12 gs), (eLe, eI G 12 gL), (eGr, eI G 12 gG), (h, eO 3 [.ref hb, .ref ht, .int (iI nb), .int (iI n), .int (iI od)]), (hb, eI G 8 fb), (ht, eI G 24 ft)]) (fun u => RG u.2.1 u.2.2 ∧ ((u.1 = false ∧ Cl n c (fU ft) (fV ft) Sm L Gm T) ∨ (u.1 = true ∧ Sta n c (fU ft) (fV ft) Sm L Gm T u.2.1 u.2.2 ∧ Enc n c (fU ft) (fV ft) Sm L Gm T u.2.1 u.2.2))) := by
  refine Con.mk (by decide +kernel) [some (.ref e), some (.ref h), some (.int (iI T)), none, none, none, none] rfl (Nat.le_of_ble_eq_true rfl) rfl ?_
  intro V M EI EL EV EA
  have hp12 := p2_12 hc.2
  have hUV : ∀ k, 0 ≤ k → k < n → 0 ≤ fU ft k ∧ fV ft k ≤ 999 := fun k h0 h1 => by
    have := hT k h0 (by omega)
    exact ⟨this.1.1, this.2.1.2⟩
  have htc : ∀ m, c ≤ m → tb T m = false := fun m h => tb_lt hTT.1 hTT.2 h hc.1
  refine M.aloadn (pc := 0) 0 rfl rfl dX1_stands_0 ?_
  refine M.aloadn (pc := 1) 1 rfl rfl dX1_stands_1 ?_
  refine M.mV (pc := 2) (c_X1_reset  ) mv_X1_45 [0, 1, 2, 3, 4, 5, 6, 7, 8] rfl rfl rfl 0 rfl rfl rfl rfl (Nat.le_of_ble_eq_true rfl) rfl ⟨(Nat.le_of_ble_eq_true rfl), (Nat.le_of_ble_eq_true rfl)⟩ ⟨(Nat.le_of_ble_eq_true rfl), (Nat.le_of_ble_eq_true rfl)⟩ rfl (fun _ => rfl) dX1_stands_2 (fun u2 hu2 => ?_)
  obtain ⟨l2, h2⟩ := u2
  dsimp only [putL, List.set_cons_zero, List.set_cons_succ, Option.toList, List.cons_append, List.nil_append] at hu2 ⊢
  have hr0 : RG l2 h2 := fun k h0 h1 => by
    have q1 := hu2 k h0 h1
    have q2 := hT k h0 h1
    omega
  have hb0 : Bx n (fU ft) (fV ft) l2 h2 := fun k h0 h1 => by
    have q1 := hu2 k h0 (by omega)
    have q2 := hU k h0 h1
    show ft (k * 4 + 0) ≤ l2 k ∧ l2 k ≤ h2 k ∧ h2 k ≤ ft (k * 4 + 1)
    omega
  have he0 : Enc n c (fU ft) (fV ft) Sm L Gm T l2 h2 := fun l' u' hs k h0 h1 => by
    have q1 := hu2 k h0 (by omega)
    have q2 := hs.1 k h0 h1
    rw [q1.1, q1.2]
    exact ⟨q2.1, q2.2.2⟩
  have hw0 := wid_b hr0
  refine M.iconst (pc := 5) dX1_stands_5 ?_
  refine M.istoren (pc := 6) 3 rfl (Nat.le_of_ble_eq_true rfl) rfl dX1_stands_6 ?_
  dsimp only [List.set_cons_zero, List.set_cons_succ]
  refine M.iconst (pc := 7) dX1_stands_7 ?_
  refine M.istore (pc := 8) (i := 4) (Nat.le_of_ble_eq_true rfl) rfl dX1_stands_8 ?_
  dsimp only [List.set_cons_zero, List.set_cons_succ]
  have L10 : ∀ (fu : Nat) {rd : Int} {mv : Bool} {l u : Int → Int}, (0 ≤ rd ∧ rd ≤ 20000) → (RG l u) → (Bx n (fU ft) (fV ft) l u) → (Enc n c (fU ft) (fV ft) Sm L Gm T l u) → ((mv = true ∧ rd + wid l u ≤ 5994) ∨ (mv = false ∧ ∀ m, 0 ≤ m → m < c → tb T m = true → Okm n Sm L Gm l u m)) → (30000 - rd).toNat < fu → V 0 0 10 [(e, eO 1 [.ref eLo, .ref eUp, .ref eSe, .ref eLe, .ref eGr, .int (iI (pI (ecl = true)))]), (eLo, eI G 6 l), (eUp, eI G 6 u), (eSe, eI G 12 gs), (eLe, eI G 12 gL), (eGr, eI G 12 gG), (h, eO 3 [.ref hb, .ref ht, .int (iI nb), .int (iI n), .int (iI od)]), (hb, eI G 8 fb), (ht, eI G 24 ft)] [some (.ref e), some (.ref h), some (.int (iI T)), some (.int (iI (pI (mv = true)))), some (.int (iI rd)), none, none] [] := by
    intro fu
    induction fu with
    | zero => intro rd mv l u hrd hr hbX he hmv hm; exact absurd hm (Nat.not_lt_zero _)
    | succ fu ih10 =>
      intro rd mv l u hrd hr hbX he hmv hm10
      refine M.iloadn (pc := 10) 3 rfl rfl dX1_stands_10 ?_
      refine M.if_eqP (pc := 11) (tgt := 94) dX1_stands_11 (by decide) (fun c11 => ?_) (fun c11 => ?_)
      · refine M.iconst (pc := 94) dX1_stands_94 ?_
        have hokN : ∀ m, 0 ≤ m → m < c → tb T m = true → Okm n Sm L Gm l u m := by
          rcases hmv with ⟨q1, q2⟩ | ⟨_, q2⟩
          · have hwq := wid_b hr
            first
              | exact absurd q1 c11
              | omega
          · exact q2
        exact EI (true, _, _) _ _ _ _ dX1_stands_95 (Or.inr ⟨rfl, by first | exact Or.inl rfl | exact Or.inr rfl | exact pI_01 _⟩) (eqI (pI_t rfl)) (rfl) (⟨hr, Or.inr ⟨rfl, ⟨hbX, hokN⟩, he⟩⟩)
      · refine M.iload (pc := 14) (i := 4) rfl dX1_stands_14 ?_
        refine M.sipush (pc := 16) (by decide +kernel) dX1_stands_16 ?_
        refine M.icmp_ge (pc := 19) (tgt := 94) dX1_stands_19 (by decide) (by omega) (by omega) (fun c19 => ?_) (fun c19 => ?_)
        · refine M.iconst (pc := 94) dX1_stands_94 ?_
          have hokN : ∀ m, 0 ≤ m → m < c → tb T m = true → Okm n Sm L Gm l u m := by
            rcases hmv with ⟨q1, q2⟩ | ⟨_, q2⟩
            · have hwq := wid_b hr
              first
                | exact absurd q1 c11
                | omega
            · exact q2
          exact EI (true, _, _) _ _ _ _ dX1_stands_95 (Or.inr ⟨rfl, by first | exact Or.inl rfl | exact Or.inr rfl | exact pI_01 _⟩) (eqI (pI_t rfl)) (rfl) (⟨hr, Or.inr ⟨rfl, ⟨hbX, hokN⟩, he⟩⟩)
        · refine M.iconst (pc := 22) dX1_stands_22 ?_
          refine M.istoren (pc := 23) 3 rfl (Nat.le_of_ble_eq_true rfl) rfl dX1_stands_23 ?_
          dsimp only [List.set_cons_zero, List.set_cons_succ]
          refine M.iconst (pc := 24) dX1_stands_24 ?_
          refine M.istore (pc := 25) (i := 5) (Nat.le_of_ble_eq_true rfl) rfl dX1_stands_25 ?_
          dsimp only [List.set_cons_zero, List.set_cons_succ]
          have L27 : ∀ (fu : Nat) {m : Int} {mv2 : Bool} {l2 u2 : Int → Int}, (0 ≤ m ∧ m ≤ 12) → (RG l2 u2) → (Bx n (fU ft) (fV ft) l2 u2) → (Enc n c (fU ft) (fV ft) Sm L Gm T l2 u2) → ((mv2 = true ∧ rd + 1 + wid l2 u2 ≤ 5994) ∨ (mv2 = false ∧ rd + wid l2 u2 ≤ 5994 ∧ ∀ m2, 0 ≤ m2 → m2 < m → m2 < c → tb T m2 = true → Okm n Sm L Gm l2 u2 m2)) → (12 - m).toNat < fu → V 0 0 27 [(e, eO 1 [.ref eLo, .ref eUp, .ref eSe, .ref eLe, .ref eGr, .int (iI (pI (ecl = true)))]), (eLo, eI G 6 l2), (eUp, eI G 6 u2), (eSe, eI G 12 gs), (eLe, eI G 12 gL), (eGr, eI G 12 gG), (h, eO 3 [.ref hb, .ref ht, .int (iI nb), .int (iI n), .int (iI od)]), (hb, eI G 8 fb), (ht, eI G 24 ft)] [some (.ref e), some (.ref h), some (.int (iI T)), some (.int (iI (pI (mv2 = true)))), some (.int (iI rd)), some (.int (iI m)), none] [] := by
            intro fu
            induction fu with
            | zero => intro m mv2 l2 u2 hm0 hr2 hb2 he2 hmv2 hm; exact absurd hm (Nat.not_lt_zero _)
            | succ fu ih27 =>
              intro m mv2 l2 u2 hm0 hr2 hb2 he2 hmv2 hm27
              refine M.iload (pc := 27) (i := 5) rfl dX1_stands_27 ?_
              refine M.aloadn (pc := 29) 0 rfl rfl dX1_stands_29 ?_
              refine M.getf (pc := 30) fg_X1_18 0 rfl rfl dX1_stands_30 ?_
              refine M.alenI (pc := 33) 3 rfl dX1_stands_33 ?_
              refine M.icmp_ge (pc := 34) (tgt := 88) dX1_stands_34 (by decide) (by omega) (by omega) (fun c34 => ?_) (fun c34 => ?_)
              · refine M.iinc (pc := 88) (i := 4) rfl rfl dX1_stands_88 ?_
                dsimp only [List.set_cons_zero, List.set_cons_succ]
                refine M.goto (pc := 91) (tgt := 10) dX1_stands_91 (by decide) ?_
                refine M.forget 5 ?_
                dsimp only [List.set_cons_zero, List.set_cons_succ]
                have hmvN : (mv2 = true ∧ rd + 1 + wid l2 u2 ≤ 5994) ∨ (mv2 = false ∧ ∀ m, 0 ≤ m → m < c → tb T m = true → Okm n Sm L Gm l2 u2 m) := by
                  rcases hmv2 with ⟨q1, q2⟩ | ⟨q1, q2, q3⟩
                  · exact Or.inl ⟨q1, by omega⟩
                  · exact Or.inr ⟨q1, fun m2 h0 h1 h2 => q3 m2 h0 (by omega) h1 h2⟩
                exact ih10  (by omega) (by exact hr2) (by exact hb2) (by exact he2) (by exact hmvN) (by omega)
              · have L56 : ∀ {sp : Int} {l3 u3 : Int → Int}, (RG l3 u3) → ((sp = 2 ∧ Cl n c (fU ft) (fV ft) Sm L Gm T) ∨ (sp = 0 ∧ l3 = l2 ∧ u3 = u2 ∧ (m < c → tb T m = true → Okm n Sm L Gm l2 u2 m)) ∨ (sp = 1 ∧ Bx n (fU ft) (fV ft) l3 u3 ∧ Enc n c (fU ft) (fV ft) Sm L Gm T l3 u3 ∧ wid l3 u3 < wid l2 u2)) → V 0 0 56 [(e, eO 1 [.ref eLo, .ref eUp, .ref eSe, .ref eLe, .ref eGr, .int (iI (pI (ecl = true)))]), (eLo, eI G 6 l3), (eUp, eI G 6 u3), (eSe, eI G 12 gs), (eLe, eI G 12 gL), (eGr, eI G 12 gG), (h, eO 3 [.ref hb, .ref ht, .int (iI nb), .int (iI n), .int (iI od)]), (hb, eI G 8 fb), (ht, eI G 24 ft)] [some (.ref e), some (.ref h), some (.int (iI T)), some (.int (iI (pI (mv2 = true)))), some (.int (iI rd)), some (.int (iI m)), none] [.int (iI sp)] := by
                  intro sp l3 u3 hr3 hsp
                  refine M.istore (pc := 56) (i := 6) (Nat.le_of_ble_eq_true rfl) rfl dX1_stands_56 ?_
                  dsimp only [List.set_cons_zero, List.set_cons_succ]
                  refine M.iload (pc := 58) (i := 6) rfl dX1_stands_58 ?_
                  refine M.iconst (pc := 60) dX1_stands_60 ?_
                  refine M.icmp_ne (pc := 61) (tgt := 66) dX1_stands_61 (by decide) (by omega) (by omega) (fun c61 => ?_) (fun c61 => ?_)
                  · have L81 : ∀ {mv4 : Bool}, ((mv4 = true ∧ (mv2 = true ∨ sp = 1)) ∨ (mv4 = false ∧ mv2 = false ∧ sp = 0)) → V 0 0 81 [(e, eO 1 [.ref eLo, .ref eUp, .ref eSe, .ref eLe, .ref eGr, .int (iI (pI (ecl = true)))]), (eLo, eI G 6 l3), (eUp, eI G 6 u3), (eSe, eI G 12 gs), (eLe, eI G 12 gL), (eGr, eI G 12 gG), (h, eO 3 [.ref hb, .ref ht, .int (iI nb), .int (iI n), .int (iI od)]), (hb, eI G 8 fb), (ht, eI G 24 ft)] [some (.ref e), some (.ref h), some (.int (iI T)), none, some (.int (iI rd)), some (.int (iI m)), none] [.int (iI (pI (mv4 = true)))] := by
                      intro mv4 hmv4
                      refine M.istoren (pc := 81) 3 rfl (Nat.le_of_ble_eq_true rfl) rfl dX1_stands_81 ?_
                      dsimp only [List.set_cons_zero, List.set_cons_succ]
                      refine M.iinc (pc := 82) (i := 5) rfl rfl dX1_stands_82 ?_
                      dsimp only [List.set_cons_zero, List.set_cons_succ]
                      refine M.goto (pc := 85) (tgt := 27) dX1_stands_85 (by decide) ?_
                      have hbN : Bx n (fU ft) (fV ft) l3 u3 := by
                        rcases hsp with ⟨q, _⟩ | ⟨_, q2, q3, _⟩ | ⟨_, q2, _, _⟩
                        · omega
                        · rw [q2, q3]; exact hb2
                        · exact q2
                      have heN : Enc n c (fU ft) (fV ft) Sm L Gm T l3 u3 := by
                        rcases hsp with ⟨q, _⟩ | ⟨_, q2, q3, _⟩ | ⟨_, _, q2, _⟩
                        · omega
                        · rw [q2, q3]; exact he2
                        · exact q2
                      have hmvN : (mv4 = true ∧ rd + 1 + wid l3 u3 ≤ 5994) ∨ (mv4 = false ∧ rd + wid l3 u3 ≤ 5994 ∧ ∀ m2, 0 ≤ m2 → m2 < m + 1 → m2 < c → tb T m2 = true → Okm n Sm L Gm l3 u3 m2) := by
                        rcases hsp with ⟨q, _⟩ | ⟨q1, q2, q3, q4⟩ | ⟨q1, q2, q3, q4⟩
                        · omega
                        · rw [q2, q3]
                          rcases hmv4 with ⟨w1, w2 | w2⟩ | ⟨w1, w2, w3⟩
                          · rcases hmv2 with ⟨v1, v2⟩ | ⟨v1, _⟩
                            · exact Or.inl ⟨w1, v2⟩
                            · rw [v1] at w2; exact absurd w2 (by decide)
                          · omega
                          · rcases hmv2 with ⟨v1, _⟩ | ⟨v1, v2, v3⟩
                            · rw [v1] at w2; exact absurd w2 (by decide)
                            · refine Or.inr ⟨w1, v2, fun m2 h0 h1 h2 h3 => ?_⟩
                              rcases (by omega : m2 < m ∨ m2 = m) with z | z
                              · exact v3 m2 h0 z h2 h3
                              · subst z; exact q4 h2 h3
                        · rcases hmv4 with ⟨w1, _⟩ | ⟨_, _, w3⟩
                          · refine Or.inl ⟨w1, ?_⟩
                            rcases hmv2 with ⟨_, v2⟩ | ⟨_, v2, _⟩ <;> omega
                          · omega
                      exact ih27  (by first | assumption | omega) (by exact hr3) (by exact hbN) (by exact heN) (by exact hmvN) (by omega)
                    refine M.iloadn (pc := 66) 3 rfl rfl dX1_stands_66 ?_
                    refine M.if_neP (pc := 67) (tgt := 76) dX1_stands_67 (by decide) (fun c67 => ?_) (fun c67 => ?_)
                    · refine M.iconst (pc := 76) dX1_stands_76 ?_
                      refine M.goto (pc := 77) (tgt := 81) dX1_stands_77 (by decide) ?_
                      refine M.forget 3 ?_
                      dsimp only [List.set_cons_zero, List.set_cons_succ]
                      refine M.forget 6 ?_
                      dsimp only [List.set_cons_zero, List.set_cons_succ]
                      exact L81 (mv4 := true) (by first | exact Or.inl ⟨rfl, Or.inl c67⟩ | exact Or.inl ⟨rfl, Or.inr c73⟩)
                    · refine M.iload (pc := 70) (i := 6) rfl dX1_stands_70 ?_
                      refine M.iconst (pc := 72) dX1_stands_72 ?_
                      refine M.icmp_ne (pc := 73) (tgt := 80) dX1_stands_73 (by decide) (by omega) (by omega) (fun c73 => ?_) (fun c73 => ?_)
                      · refine M.iconst (pc := 80) dX1_stands_80 ?_
                        refine M.forget 3 ?_
                        dsimp only [List.set_cons_zero, List.set_cons_succ]
                        refine M.forget 6 ?_
                        dsimp only [List.set_cons_zero, List.set_cons_succ]
                        exact L81 (mv4 := false) (by exact Or.inr ⟨rfl, by simpa using c67, by omega⟩)
                      · refine M.iconst (pc := 76) dX1_stands_76 ?_
                        refine M.goto (pc := 77) (tgt := 81) dX1_stands_77 (by decide) ?_
                        refine M.forget 3 ?_
                        dsimp only [List.set_cons_zero, List.set_cons_succ]
                        refine M.forget 6 ?_
                        dsimp only [List.set_cons_zero, List.set_cons_succ]
                        exact L81 (mv4 := true) (by first | exact Or.inl ⟨rfl, Or.inl c67⟩ | exact Or.inl ⟨rfl, Or.inr c73⟩)
                  · refine M.iconst (pc := 64) dX1_stands_64 ?_
                    have hclN : Cl n c (fU ft) (fV ft) Sm L Gm T := by
                      rcases hsp with ⟨_, q⟩ | ⟨q, _⟩ | ⟨q, _⟩
                      · exact q
                      · omega
                      · omega
                    exact EI (false, _, _) _ _ _ _ dX1_stands_65 (Or.inr ⟨rfl, by first | exact Or.inl rfl | exact Or.inr rfl | exact pI_01 _⟩) (eqI (pI_f (by simp))) (rfl) (⟨hr3, Or.inl ⟨rfl, hclN⟩⟩)
                refine M.iloadn (pc := 37) 2 rfl rfl dX1_stands_37 ?_
                refine M.iload (pc := 38) (i := 5) rfl dX1_stands_38 ?_
                refine M.pSN (pc := 40) (c_X7_has  (by first | assumption | omega) (by first | assumption | omega) (by first | assumption | omega) (by first | assumption | omega)) ms_X1_75 [] rfl rfl rfl rfl (Nat.le_of_ble_eq_true rfl) rfl ⟨(Nat.le_of_ble_eq_true rfl), (Nat.le_of_ble_eq_true rfl)⟩ ⟨(Nat.le_of_ble_eq_true rfl), (Nat.le_of_ble_eq_true rfl)⟩ rfl dX1_stands_40 ?_
                refine M.if_eqP (pc := 43) (tgt := 55) dX1_stands_43 (by decide) (fun c43 => ?_) (fun c43 => ?_)
                · refine M.iconst (pc := 55) dX1_stands_55 ?_
                  exact L56  (by exact hr2) (by exact Or.inr (Or.inl ⟨rfl, rfl, rfl, fun _ z => absurd z c43⟩))
                · have hmc : m < c := by
                    rcases (by omega : m < c ∨ c ≤ m) with z | z
                    · exact z
                    · rw [htc m z] at c43
                      exact absurd c43 (by decide)
                  refine M.aloadn (pc := 46) 0 rfl rfl dX1_stands_46 ?_
                  refine M.iload (pc := 47) (i := 5) rfl dX1_stands_47 ?_
                  refine M.mV (pc := 49) (c_X1_narrow (n := n) (c := c) (Ue := fU ft) (Ve := fV ft) (Sm := Sm) (L := L) (Gm := Gm) (by first | assumption | omega) (by first | assumption | omega) (by omega) (by first | assumption | omega) (by first | assumption | omega) (by first | assumption | omega) (by first | assumption | omega)) mv_X1_79 [0, 1, 2, 3, 4, 5] rfl rfl rfl 0 rfl rfl rfl rfl (Nat.le_of_ble_eq_true rfl) rfl ⟨(Nat.le_of_ble_eq_true rfl), (Nat.le_of_ble_eq_true rfl)⟩ ⟨(Nat.le_of_ble_eq_true rfl), (Nat.le_of_ble_eq_true rfl)⟩ rfl (fun _ => rfl) dX1_stands_49 (fun u49 hu49 => ?_)
                  obtain ⟨r49, l49, h49⟩ := u49
                  dsimp only [putL, List.set_cons_zero, List.set_cons_succ, Option.toList, List.cons_append, List.nil_append] at hu49 ⊢
                  refine M.goto (pc := 52) (tgt := 56) dX1_stands_52 (by decide) ?_
                  have hspN : (r49 = 2 ∧ Cl n c (fU ft) (fV ft) Sm L Gm T) ∨ (r49 = 0 ∧ l49 = l2 ∧ h49 = u2 ∧ (m < c → tb T m = true → Okm n Sm L Gm l2 u2 m)) ∨ (r49 = 1 ∧ Bx n (fU ft) (fV ft) l49 h49 ∧ Enc n c (fU ft) (fV ft) Sm L Gm T l49 h49 ∧ wid l49 h49 < wid l2 u2) := by
                    rcases hu49.2 with ⟨q1, q2⟩ | ⟨q1, q2, q3, q4⟩ | ⟨q1, q2, q3, q4⟩
                    · exact Or.inl ⟨q1, q2 T c43 he2⟩
                    · exact Or.inr (Or.inl ⟨q1, q2, q3, fun _ _ => q4⟩)
                    · exact Or.inr (Or.inr ⟨q1, q2, q3 T c43 he2, q4⟩)
                  exact L56  (by exact hu49.1) (by exact hspN)
          have hmvI : rd + wid l u ≤ 5994 := by
            rcases hmv with ⟨q1, q2⟩ | ⟨q1, q2⟩
            · exact q2
            · rw [q1] at c11; exact absurd c11 (by decide)
          exact L27 _ (mv2 := false) (by first | assumption | omega) (by exact hr) (by exact hbX) (by exact he) (by exact Or.inr ⟨rfl, hmvI, fun m2 _ h1 => by omega⟩) (Nat.lt_succ_self _)
  exact L10 _ (mv := true) (by omega) (by exact hr0) (by exact hb0) (by exact he0) (by exact Or.inl ⟨rfl, by omega⟩) (Nat.lt_succ_self _)
theorem learn_t {n c : Int} {ft Sm L Gm l u : Int → Int} {T : Int} {t : Bool} (h : RG l u ∧ ((t = false ∧ Cl n c (fU ft) (fV ft) Sm L Gm T) ∨ (t = true ∧ Sta n c (fU ft) (fV ft) Sm L Gm T l u ∧ Enc n c (fU ft) (fV ft) Sm L Gm T l u))) (hc : ¬ (!t) = true) : EndsOf n c (fU ft) (fV ft) Sm L Gm T (!t) l u ∧ RG l u := by
  rcases h with ⟨h1, ⟨rfl, _⟩ | ⟨rfl, h2⟩⟩
  · exact absurd rfl hc
  · exact ⟨Or.inr ⟨rfl, h2⟩, h1⟩
theorem learn_f {n c : Int} {ft Sm L Gm l u l2 u2 : Int → Int} {T : Int} {t : Bool} (h : RG l u ∧ ((t = false ∧ Cl n c (fU ft) (fV ft) Sm L Gm T) ∨ (t = true ∧ Sta n c (fU ft) (fV ft) Sm L Gm T l u ∧ Enc n c (fU ft) (fV ft) Sm L Gm T l u))) (h2 : ∀ x, 0 ≤ x → x < 6 → l2 x = ft (x * 4 + 0) ∧ u2 x = ft (x * 4 + 1)) (hT : HT ft) (hn : n ≤ 6) (hc : (!t) = true) : EndsOf n c (fU ft) (fV ft) Sm L Gm T (!t) l2 u2 ∧ RG l2 u2 := by
  rcases h with ⟨h1, ⟨rfl, h3⟩ | ⟨rfl, _⟩⟩
  · refine ⟨Or.inl ⟨rfl, h3, fun k h0 h1 => h2 k h0 (by omega)⟩, fun k h0 h1 => ?_⟩
    have q1 := h2 k h0 h1
    have q2 := hT k h0 h1
    omega
  · exact absurd hc (by decide)
set_option maxHeartbeats 4000000 in
set_option maxRecDepth 100000 in
theorem c_X1_learn {l : Launch} {G : GT} {e eLo eUp eSe eLe eGr : Nat} {gl gu gs gL gG : Int → Int} {ecl : Bool} {h hb ht : Nat} {fb ft : Int → Int} {nb n od : Int} {r rc : Nat} {gm : Int → Int} {c : Int} (hB : HB fb) (hT : HT ft) (hnb : 0 ≤ nb ∧ nb ≤ 2) (hn : 0 ≤ n ∧ n ≤ 6) (hc : 0 ≤ c ∧ c ≤ 12) (hM : HM gm c nb n) (hU : ∀ k, 0 ≤ k → k < n → ft (k * 4 + 0) ≤ ft (k * 4 + 1)) : Con l G yX1_learn cX1_learn 3 none { frames := 4, cells := 0, slots := 0, locals := 95 } [.ref e, .ref h, .ref r] [(e, eO 1 [.ref eLo, .ref eUp, .ref eSe, .ref eLe, .ref eGr, .int (iI (pI (ecl = true)))]), (eLo, eI G 6 gl), (eUp, eI G 6 gu), (eSe, eI G 12 gs), (eLe, eI G 12 gL), (eGr, eI G 12 gG), (h, eO 3 [.ref hb, .ref ht, .int (iI nb), .int (iI n), .int (iI od)]), (hb, eI G 8 fb), (ht, eI G 24 ft), (r, eO 6 [.ref rc, .int (iI c)]), (rc, eI G 48 gm)] (S := Bool × (Int → Int) × (Int → Int) × (Int → Int) × (Int → Int) × (Int → Int)) (fun _ => none) (fun u => [(e, eO 1 [.ref eLo, .ref eUp, .ref eSe, .ref eLe, .ref eGr, .int (iI (pI (u.1 = true)))]), (eLo, eI G 6 u.2.1), (eUp, eI G 6 u.2.2.1), (eSe, eI G 12 u.2.2.2.1), (eLe, eI G 12 u.2.2.2.2.1), (eGr, eI G 12 u.2.2.2.2.2), (h, eO 3 [.ref hb, .ref ht, .int (iI nb), .int (iI n), .int (iI od)]), (hb, eI G 8 fb), (ht, eI G 24 ft), (r, eO 6 [.ref rc, .int (iI c)]), (rc, eI G 48 gm)]) (fun u => EndsOf n c (fU ft) (fV ft) (mS gm) (mL fb gm) (mG fb gm) (p2 c - 1) u.1 u.2.1 u.2.2.1 ∧ RG u.2.1 u.2.2.1) := by
  refine Con.mk (by decide +kernel) [some (.ref e), some (.ref h), some (.ref r)] rfl (Nat.le_of_ble_eq_true rfl) rfl ?_
  intro V M EI EL EV EA
  have hp12 := p2_12 hc.2
  refine M.aloadn (pc := 0) 0 rfl rfl dX1_learn_0 ?_
  refine M.aloadn (pc := 1) 1 rfl rfl dX1_learn_1 ?_
  refine M.aloadn (pc := 2) 2 rfl rfl dX1_learn_2 ?_
  refine M.mV (pc := 3) (c_X1_load  (by first | assumption | omega) (by first | assumption | omega) (by first | assumption | omega) (by first | assumption | omega) (by first | assumption | omega)) mv_X1_27 [0, 1, 2, 3, 4, 5, 6, 7, 8, 9, 10] rfl rfl rfl 0 rfl rfl rfl rfl (Nat.le_of_ble_eq_true rfl) rfl ⟨(Nat.le_of_ble_eq_true rfl), (Nat.le_of_ble_eq_true rfl)⟩ ⟨(Nat.le_of_ble_eq_true rfl), (Nat.le_of_ble_eq_true rfl)⟩ rfl (fun _ => rfl) dX1_learn_3 (fun u3 hu3 => ?_)
  obtain ⟨s3, q3, g3⟩ := u3
  dsimp only [putL, List.set_cons_zero, List.set_cons_succ, Option.toList, List.cons_append, List.nil_append] at hu3 ⊢
  refine M.aloadn (pc := 6) 0 rfl rfl dX1_learn_6 ?_
  refine M.aloadn (pc := 7) 0 rfl rfl dX1_learn_7 ?_
  refine M.aloadn (pc := 8) 1 rfl rfl dX1_learn_8 ?_
  refine M.iconst (pc := 9) dX1_learn_9 ?_
  refine M.aloadn (pc := 10) 2 rfl rfl dX1_learn_10 ?_
  refine M.getf (pc := 11) fg_X1_31 9 rfl rfl dX1_learn_11 ?_
  refine M.ishl (pc := 14) (bit_shl1 (by omega) (by omega)) dX1_learn_14 ?_
  refine M.iconst (pc := 15) dX1_learn_15 ?_
  refine M.isub (pc := 16) dX1_learn_16 ?_
  refine M.mV (pc := 17) (c_X1_stands  (by first | assumption | omega) (by first | assumption | omega) (by first | assumption | omega) (by first | assumption | omega) (by exact DA.of hB hnb.2 hc.2 hM hu3) (by first | assumption | omega)) mv_X1_37 [0, 1, 2, 3, 4, 5, 6, 7, 8] rfl rfl rfl 0 rfl rfl rfl rfl (Nat.le_of_ble_eq_true rfl) rfl ⟨(Nat.le_of_ble_eq_true rfl), (Nat.le_of_ble_eq_true rfl)⟩ ⟨(Nat.le_of_ble_eq_true rfl), (Nat.le_of_ble_eq_true rfl)⟩ rfl (fun _ => rfl) dX1_learn_17 (fun u17 hu17 => ?_)
  obtain ⟨t17, l17, h17⟩ := u17
  dsimp only [putL, List.set_cons_zero, List.set_cons_succ, Option.toList, List.cons_append, List.nil_append] at hu17 ⊢
  refine M.if_neP (pc := 20) (tgt := 27) dX1_learn_20 (by decide) (fun c20 => ?_) (fun c20 => ?_)
  · refine M.iconst (pc := 27) dX1_learn_27 ?_
    refine M.putfZ (pc := 28) (!t17) (by first | exact (pI_f (by simp [c20])).symm | exact (pI_t (by simp [c20])).symm) fp_X1_41 0 rfl (Nat.le_of_ble_eq_true rfl) dX1_learn_28 ?_
    dsimp only [List.set_cons_zero, List.set_cons_succ]
    refine M.aloadn (pc := 31) 0 rfl rfl dX1_learn_31 ?_
    refine M.getf (pc := 32) fg_X1_41 0 rfl rfl dX1_learn_32 ?_
    refine M.if_eqP (pc := 35) (tgt := 43) dX1_learn_35 (by decide) (fun c35 => ?_) (fun c35 => ?_)
    · exact EV (_, _, _, _, _, _) _ _ _ dX1_learn_43 rfl (rfl) (rfl) (by first | exact learn_t hu17 c35 | exact learn_f hu17 hu40 hT hn.2 c35)
    · refine M.aloadn (pc := 38) 0 rfl rfl dX1_learn_38 ?_
      refine M.aloadn (pc := 39) 1 rfl rfl dX1_learn_39 ?_
      refine M.mV (pc := 40) (c_X1_reset  ) mv_X1_45 [0, 1, 2, 3, 4, 5, 6, 7, 8] rfl rfl rfl 0 rfl rfl rfl rfl (Nat.le_of_ble_eq_true rfl) rfl ⟨(Nat.le_of_ble_eq_true rfl), (Nat.le_of_ble_eq_true rfl)⟩ ⟨(Nat.le_of_ble_eq_true rfl), (Nat.le_of_ble_eq_true rfl)⟩ rfl (fun _ => rfl) dX1_learn_40 (fun u40 hu40 => ?_)
      obtain ⟨l40, h40⟩ := u40
      dsimp only [putL, List.set_cons_zero, List.set_cons_succ, Option.toList, List.cons_append, List.nil_append] at hu40 ⊢
      exact EV (_, _, _, _, _, _) _ _ _ dX1_learn_43 rfl (rfl) (rfl) (by first | exact learn_t hu17 c35 | exact learn_f hu17 hu40 hT hn.2 c35)
  · refine M.iconst (pc := 23) dX1_learn_23 ?_
    refine M.goto (pc := 24) (tgt := 28) dX1_learn_24 (by decide) ?_
    refine M.putfZ (pc := 28) (!t17) (by first | exact (pI_f (by simp [c20])).symm | exact (pI_t (by simp [c20])).symm) fp_X1_41 0 rfl (Nat.le_of_ble_eq_true rfl) dX1_learn_28 ?_
    dsimp only [List.set_cons_zero, List.set_cons_succ]
    refine M.aloadn (pc := 31) 0 rfl rfl dX1_learn_31 ?_
    refine M.getf (pc := 32) fg_X1_41 0 rfl rfl dX1_learn_32 ?_
    refine M.if_eqP (pc := 35) (tgt := 43) dX1_learn_35 (by decide) (fun c35 => ?_) (fun c35 => ?_)
    · exact EV (_, _, _, _, _, _) _ _ _ dX1_learn_43 rfl (rfl) (rfl) (by first | exact learn_t hu17 c35 | exact learn_f hu17 hu40 hT hn.2 c35)
    · refine M.aloadn (pc := 38) 0 rfl rfl dX1_learn_38 ?_
      refine M.aloadn (pc := 39) 1 rfl rfl dX1_learn_39 ?_
      refine M.mV (pc := 40) (c_X1_reset  ) mv_X1_45 [0, 1, 2, 3, 4, 5, 6, 7, 8] rfl rfl rfl 0 rfl rfl rfl rfl (Nat.le_of_ble_eq_true rfl) rfl ⟨(Nat.le_of_ble_eq_true rfl), (Nat.le_of_ble_eq_true rfl)⟩ ⟨(Nat.le_of_ble_eq_true rfl), (Nat.le_of_ble_eq_true rfl)⟩ rfl (fun _ => rfl) dX1_learn_40 (fun u40 hu40 => ?_)
      obtain ⟨l40, h40⟩ := u40
      dsimp only [putL, List.set_cons_zero, List.set_cons_succ, Option.toList, List.cons_append, List.nil_append] at hu40 ⊢
      exact EV (_, _, _, _, _, _) _ _ _ dX1_learn_43 rfl (rfl) (rfl) (by first | exact learn_t hu17 c35 | exact learn_f hu17 hu40 hT hn.2 c35)
