/-! the class's cases: the tables as they are built -/
def VTs (nb n t : Int) : Int → Prop := fun s => VTt nb n s ∧ s < t
def TBs (nb n : Int) (H : Int → Int → Int) (t cu : Int) (l U P K : Int → Int) : Prop :=
  (0 ≤ cu ∧ cu ≤ t) ∧ (∀ x, 0 ≤ x → x < t → (VTt nb n x → l x = LDR n (H x)) ∧ (¬ VTt nb n x → l x = 0)) ∧
  (∀ u, 0 ≤ u → u < cu → VTt nb n (U u) ∧ U u < t ∧ PRT n H (U u) P (u * 13)) ∧ (∀ u v, 0 ≤ u → u < v → v < cu → U u < U v) ∧
  (∀ s, VTt nb n s → s < t → LDR n (H s) ≠ 0 → ∃ u, (0 ≤ u ∧ u < cu) ∧ U u ≤ s ∧ LDR n (H (U u)) = LDR n (H s)) ∧
  (∀ d, 0 ≤ K d ∧ K d < 8192) ∧ ∀ d, prB n d = true → K d = alM (VTs nb n t) H (prB n) d
theorem LDR_eq {n s t d e : Int} {H : Int → Int → Int} (hn : 0 ≤ n ∧ n ≤ 6) (h : LDR n (H s) = LDR n (H t)) (hd : prB n d = true) (he : prB n e = true) : H s d = H s e ↔ H t d = H t e := by
  have hdb := prB_b hn hd
  have heb := prB_b hn he
  have q1 := LDR_dig (f := H s) hn hdb.1 hdb.2
  have q2 := LDR_dig (f := H s) hn heb.1 heb.2
  rw [h, LDR_dig hn hdb.1 hdb.2, show gL (prB n) (H t) d = leadOf (prB n) (H t) d from if_pos hd, show gL (prB n) (H s) d = leadOf (prB n) (H s) d from if_pos hd] at q1
  rw [h, LDR_dig hn heb.1 heb.2, show gL (prB n) (H t) e = leadOf (prB n) (H t) e from if_pos he, show gL (prB n) (H s) e = leadOf (prB n) (H s) e from if_pos he] at q2
  rw [← leadOf_eq (f := H s) hdb.1 heb.1 hd he, ← leadOf_eq (f := H t) hdb.1 heb.1 hd he, q1, q2]
theorem LDR_0 {n t d e : Int} {H : Int → Int → Int} (hn : 0 ≤ n ∧ n ≤ 6) (h : LDR n (H t) = 0) (hd : prB n d = true) (he : prB n e = true) : H t d = H t e := by
  have hdb := prB_b hn hd
  have heb := prB_b hn he
  have q1 := LDR_dig (f := H t) hn hdb.1 hdb.2
  have q2 := LDR_dig (f := H t) hn heb.1 heb.2
  rw [h, Int.zero_ediv, show gL (prB n) (H t) d = leadOf (prB n) (H t) d from if_pos hd] at q1
  rw [h, Int.zero_ediv, show gL (prB n) (H t) e = leadOf (prB n) (H t) e from if_pos he] at q2
  exact (leadOf_eq (f := H t) hdb.1 heb.1 hd he).mp (by rw [← q1, ← q2])
theorem alM_cg {vt vt' : Int → Prop} {H : Int → Int → Int} {pr : Int → Bool} {d : Int} (h : ∀ e, pr e = true → (AL vt H d e ↔ AL vt' H d e)) : alM vt H pr d = alM vt' H pr d := by
  refine cm_ext 13 (fun j hj => ?_)
  by_cases p : pr (j : Int) = true
  · by_cases q : AL vt H d (j : Int)
    · rw [alB_t.mpr ⟨p, q⟩, alB_t.mpr ⟨p, (h _ p).mp q⟩]
    · rw [Bool.eq_false_iff.mpr (fun z => q (alB_t.mp z).2), Bool.eq_false_iff.mpr (fun z => q ((h _ p).mpr (alB_t.mp z).2))]
  · rw [Bool.eq_false_iff.mpr (fun z => p (alB_t.mp z).1), Bool.eq_false_iff.mpr (fun z => p (alB_t.mp z).1)]
theorem alM_t {vt : Int → Prop} {H : Int → Int → Int} {pr : Int → Bool} {d e : Int} (h0 : 0 ≤ e) (h1 : e < 13) : tb (alM vt H pr d) e = true ↔ pr e = true ∧ AL vt H d e := by
  unfold alM
  rw [cm_13 _ h0 h1]
  exact alB_t
theorem alM_land {nb n t d : Int} {H : Int → Int → Int} (hn : 0 ≤ n ∧ n ≤ 6) (ht : VTt nb n t) (hd : prB n d = true) : land (alM (VTs nb n t) H (prB n) d) (PT H t (cm (prB n) 13) d) = alM (VTs nb n (t + 1)) H (prB n) d := by
  have hab := cm_13b (alB (VTs nb n t) H (prB n) d)
  have hpb : 0 ≤ PT H t (cm (prB n) 13) d ∧ PT H t (cm (prB n) 13) d < 8192 := cm_13b _
  have hlb := land_b (a := alM (VTs nb n t) H (prB n) d) hab.1 hpb.1
  have hab2 : alM (VTs nb n t) H (prB n) d < 8192 := hab.2
  refine mask_ext ⟨hlb.1, by omega⟩ (cm_13b _) (fun e h0 h1 => ?_)
  have key : tb (land (alM (VTs nb n t) H (prB n) d) (PT H t (cm (prB n) 13) d)) e = true ↔ tb (alM (VTs nb n (t + 1)) H (prB n) d) e = true := by
    rw [tb_land, Bool.and_eq_true]
    rw [alM_t h0 h1, alM_t h0 h1]
    constructor
    · rintro ⟨⟨p, a⟩, q⟩
      have q2 := (me_PT.mp ⟨⟨h0, h1⟩, q⟩).2
      refine ⟨p, fun s hs => ?_⟩
      rcases (by have := hs.2; omega : s < t ∨ s = t) with w | w
      · exact a s ⟨hs.1, w⟩
      · rw [w]; exact q2.symm
    · rintro ⟨p, a⟩
      exact ⟨⟨p, fun s hs => a s ⟨hs.1, by have := hs.2; omega⟩⟩, (me_PT.mpr ⟨(me_pr hn).mpr p, (a t ⟨ht, by omega⟩).symm⟩).2⟩
  cases q1 : tb (land (alM (VTs nb n t) H (prB n) d) (PT H t (cm (prB n) 13) d)) e <;> cases q2 : tb (alM (VTs nb n (t + 1)) H (prB n) d) e <;> simp_all
theorem TBs.zero {nb n : Int} {H : Int → Int → Int} {l U P K : Int → Int} (h8 : ∀ d, 0 ≤ K d ∧ K d < 8192) (hK : ∀ d, 0 ≤ d → d < 13 → K d = cm (prB n) 13) (hn : 0 ≤ n ∧ n ≤ 6) : TBs nb n H 0 0 l U P K := by
  refine ⟨by omega, fun x _ _ => by omega, fun u _ _ => by omega, fun u v _ _ _ => by omega, fun s hs _ => by have := hs.1; omega, h8, fun d hd => ?_⟩
  have hb := prB_b hn hd
  rw [hK d hb.1 hb.2]
  refine cm_ext 13 (fun j hj => ?_)
  by_cases p : prB n (j : Int) = true
  · rw [p, alB_t.mpr ⟨p, fun s hs => by have := hs.1.1; have := hs.2; omega⟩]
  · rw [Bool.eq_false_iff.mpr p, Bool.eq_false_iff.mpr (fun z => p (alB_t.mp z).1)]
theorem TBs.skip {nb n t cu v : Int} {H : Int → Int → Int} {l U P K : Int → Int} (hn : 0 ≤ n ∧ n ≤ 6) (h : TBs nb n H t cu l U P K) (hv : VTt nb n t → v = LDR n (H t)) (hv0 : ¬ VTt nb n t → v = 0) (hs : v = 0 ∨ ∃ u, (0 ≤ u ∧ u < cu) ∧ l (U u) = v) : TBs nb n H (t + 1) cu (upZ l t v) U P K := by
  obtain ⟨h1, h2, h3, h4, h5, h6, h7⟩ := h
  refine ⟨by omega, fun x x0 x1 => ?_, fun u u0 u1 => ⟨(h3 u u0 u1).1, by have := (h3 u u0 u1).2.1; omega, (h3 u u0 u1).2.2⟩, h4, fun s g1 g2 g3 => ?_, h6, fun d hd => ?_⟩
  · by_cases e : x = t
    · rw [e, upZ_s]; exact ⟨hv, hv0⟩
    · rw [upZ_n e]; exact h2 x x0 (by omega)
  · rcases (by omega : s < t ∨ s = t) with q | q
    · exact h5 s g1 q g3
    · subst q
      rw [← hv g1] at g3 ⊢
      rcases hs with w | ⟨u, w1, w2⟩
      · exact absurd w g3
      · have h3u := h3 u w1.1 w1.2
        exact ⟨u, w1, by omega, by rw [← w2, (h2 (U u) h3u.1.1.1 h3u.2.1).1 h3u.1]⟩
  · rw [h7 d hd]
    refine alM_cg (fun e he => ⟨fun a s hs2 => ?_, fun a s hs2 => a s ⟨hs2.1, by have := hs2.2; omega⟩⟩)
    rcases (by have := hs2.2; omega : s < t ∨ s = t) with w | w
    · exact a s ⟨hs2.1, w⟩
    · subst w
      have hvv := hv hs2.1
      rcases hs with w | ⟨u, w1, w2⟩
      · exact LDR_0 hn (by rw [← hvv]; exact w) hd he
      · have h3u := h3 u w1.1 w1.2
        have e3 : LDR n (H (U u)) = LDR n (H s) := by rw [← hvv, ← w2, (h2 (U u) h3u.1.1.1 h3u.2.1).1 h3u.1]
        exact (LDR_eq hn e3 hd he).mp (a (U u) ⟨h3u.1, h3u.2.1⟩)
theorem TBs.add {nb n t cu v : Int} {H : Int → Int → Int} {l U P K P' K' : Int → Int} (hn : 0 ≤ n ∧ n ≤ 6) (h : TBs nb n H t cu l U P K) (hvt : VTt nb n t) (hv : v = LDR n (H t)) (hP : ∀ x, x < cu * 13 → P' x = P x) (hp : PRT n H t P' (cu * 13)) (hk8 : ∀ d, 0 ≤ K' d ∧ K' d < 8192) (hk : ∀ d, prB n d = true → K' d = land (K d) (PT H t (cm (prB n) 13) d)) : TBs nb n H (t + 1) (cu + 1) (upZ l t v) (upZ U cu t) P' K' := by
  obtain ⟨h1, h2, h3, h4, h5, h6, h7⟩ := h
  refine ⟨by omega, fun x x0 x1 => ?_, fun u u0 u1 => ?_, fun u w u0 u1 u2 => ?_, fun s g1 g2 g3 => ?_, hk8, fun d hd => ?_⟩
  · by_cases e : x = t
    · rw [e, upZ_s]; exact ⟨fun _ => hv, fun z => absurd hvt z⟩
    · rw [upZ_n e]; exact h2 x x0 (by omega)
  · rcases (by omega : u < cu ∨ u = cu) with q | q
    · obtain ⟨a1, a2, J, a3, a4, a5, a6⟩ := h3 u u0 q
      rw [upZ_n (by omega)]
      have hcg : ∀ j, j < 13 → P' (u * 13 + j) = P (u * 13 + j) := fun j hj => hP _ (by omega)
      refine ⟨a1, by omega, J, a3, fun j j0 j1 => ?_, fun z => ?_, fun x hx => ?_⟩
      · rw [hcg j (by omega)]; exact a4 j j0 j1
      · rw [hcg J z]; exact a5 z
      · obtain ⟨j, b1, b2⟩ := a6 x hx
        exact ⟨j, b1, by rw [hcg j (by omega)]; exact b2⟩
    · rw [q, upZ_s]
      exact ⟨hvt, by omega, hp⟩
  · rcases (by omega : w < cu ∨ w = cu) with q | q
    · rw [upZ_n (by omega), upZ_n (by omega)]; exact h4 u w u0 u1 q
    · rw [q, upZ_s, upZ_n (by omega)]; exact (h3 u u0 (by omega)).2.1
  · rcases (by omega : s < t ∨ s = t) with q | q
    · obtain ⟨u, a1, a2, a3⟩ := h5 s g1 q g3
      exact ⟨u, ⟨a1.1, by omega⟩, by rw [upZ_n (by omega)]; exact a2, by rw [upZ_n (by omega)]; exact a3⟩
    · exact ⟨cu, ⟨by omega, by omega⟩, by rw [upZ_s]; omega, by rw [upZ_s, q]⟩
  · rw [hk d hd, h7 d hd]
    exact alM_land hn hvt hd
set_option maxHeartbeats 4000000 in
set_option maxRecDepth 100000 in
theorem c_J7_fill_53178 {l : Launch} {G : GT} {a N : Nat} {g : Int → Int} {v : Int} (hN : N < 2147483648) : Con l G yJ7_fill_53178 cJ7_fill_53178 4 none { frames := 0, cells := 0, slots := 0, locals := 0 } [.ref a, .int (iI v)] [(a, eI G N g)] (S := Int → Int) (fun _ => none) (fun u => [(a, eI G N u)]) (fun u => ∀ d, u d = if 0 ≤ d ∧ d < (N : Int) then v else g d) := by
  refine Con.mk (by decide +kernel) [some (.ref a), some (.int (iI v)), none, none] rfl (Nat.le_of_ble_eq_true rfl) rfl ?_
  intro V M EI EL EV EA
  refine M.iconst (pc := 0) dJ7_fill_53178_0 ?_
  refine M.istoren (pc := 1) 2 rfl (Nat.le_of_ble_eq_true rfl) rfl dJ7_fill_53178_1 ?_
  dsimp only [List.set_cons_zero, List.set_cons_succ]
  refine M.aloadn (pc := 2) 0 rfl rfl dJ7_fill_53178_2 ?_
  refine M.alenI (pc := 3) 0 rfl dJ7_fill_53178_3 ?_
  refine M.istoren (pc := 4) 3 rfl (Nat.le_of_ble_eq_true rfl) rfl dJ7_fill_53178_4 ?_
  dsimp only [List.set_cons_zero, List.set_cons_succ]
  have L5 : ∀ (fu : Nat) {k : Int} {w : Int → Int}, (0 ≤ k ∧ k ≤ (N : Int)) → (∀ d, w d = if 0 ≤ d ∧ d < k then v else g d) → ((N : Int) - k).toNat < fu → V 0 0 5 [(a, eI G N w)] [some (.ref a), some (.int (iI v)), some (.int (iI k)), some (.int (iI (N : Int)))] [] := by
    intro fu
    induction fu with
    | zero => intro k w hk hw hm; exact absurd hm (Nat.not_lt_zero _)
    | succ fu ih5 =>
      intro k w hk hw hm5
      refine M.iloadn (pc := 5) 2 rfl rfl dJ7_fill_53178_5 ?_
      refine M.iloadn (pc := 6) 3 rfl rfl dJ7_fill_53178_6 ?_
      refine M.icmp_ge (pc := 7) (tgt := 20) dJ7_fill_53178_7 (by decide) (by omega) (by omega) (fun c7 => ?_) (fun c7 => ?_)
      · exact EV w _ _ _ dJ7_fill_53178_20 rfl (rfl) (rfl) (fun d => by rw [hw d, show k = (N : Int) by omega])
      · refine M.aloadn (pc := 10) 0 rfl rfl dJ7_fill_53178_10 ?_
        refine M.iloadn (pc := 11) 2 rfl rfl dJ7_fill_53178_11 ?_
        refine M.iloadn (pc := 12) 1 rfl rfl dJ7_fill_53178_12 ?_
        refine M.iast (pc := 13) 0 rfl (by omega) (by omega) dJ7_fill_53178_13 ?_
        dsimp only [List.set_cons_zero, List.set_cons_succ]
        refine M.iinc (pc := 14) (i := 2) rfl rfl dJ7_fill_53178_14 ?_
        dsimp only [List.set_cons_zero, List.set_cons_succ]
        refine M.goto (pc := 17) (tgt := 5) dJ7_fill_53178_17 (by decide) ?_
        exact ih5  (by first | assumption | omega) (by intro d; by_cases e : d = k; rw [e, upZ_s, if_pos ⟨hk.1, by omega⟩]; rw [upZ_n e, hw d]; have q : (0 ≤ d ∧ d < k + 1) ↔ (0 ≤ d ∧ d < k) := (by omega); simp only [q]) (by omega)
  exact L5 _  (by first | assumption | omega) (by intro d; exact (if_neg (by omega)).symm) (Nat.lt_succ_self _)
