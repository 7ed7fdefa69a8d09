/-! the class's cases: the tables as they are built -/
def VTs (nb n t : Int) : Int → Prop := fun s => VTt nb n s ∧ s < t
def TBs (nb n : Int) (H : Int → Int → Int) (t cu : Int) (l U P K : Int → Int) : Prop :=
  (0 ≤ cu ∧ cu ≤ t) ∧ (∀ x, 0 ≤ x → x < t → (VTt nb n x → l x = LDR n (H x)) ∧ (¬ VTt nb n x → l x = 0)) ∧
  (∀ u, 0 ≤ u → u < cu → VTt nb n (U u) ∧ U u < t ∧ PRT n H (U u) P (u * 13)) ∧ (∀ u v, 0 ≤ u → u < v → v < cu → U u < U v) ∧
  (∀ s, VTt nb n s → s < t → LDR n (H s) ≠ 0 → ∃ u, (0 ≤ u ∧ u < cu) ∧ U u ≤ s ∧ LDR n (H (U u)) = LDR n (H s)) ∧
  (∀ d, 0 ≤ K d ∧ K d < 8192) ∧ ∀ d, prB n d = true → K d = alM (VTs nb n t) H (prB n) d
theorem LDR_eq {n s t d e : Int} {H : Int → Int → Int} (hn : 0 ≤ n ∧ n ≤ 6) (h : LDR n (H s) = LDR n (H t)) (hd : prB n d = true) (he : prB n e = true) : H s d = H s e ↔ H t d = H t e := by
  have hdb := prB_b hn hd
  have heb := prB_b hn he
  have q1 := LDR_dig (f := H s) hn hdb.1 hdb.2
  have q2 := LDR_dig (f := H s) hn heb.1 heb.2
  rw [h, LDR_dig hn hdb.1 hdb.2, show gL (prB n) (H t) d = leadOf (prB n) (H t) d from if_pos hd, show gL (prB n) (H s) d = leadOf (prB n) (H s) d from if_pos hd] at q1
  rw [h, LDR_dig hn heb.1 heb.2, show gL (prB n) (H t) e = leadOf (prB n) (H t) e from if_pos he, show gL (prB n) (H s) e = leadOf (prB n) (H s) e from if_pos he] at q2
  rw [← leadOf_eq (f := H s) hdb.1 heb.1 hd he, ← leadOf_eq (f := H t) hdb.1 heb.1 hd he, q1, q2]
theorem LDR_0 {n t d e : Int} {H : Int → Int → Int} (hn : 0 ≤ n ∧ n ≤ 6) (h : LDR n (H t) = 0) (hd : prB n d = true) (he : prB n e = true) : H t d = H t e := by
  have hdb := prB_b hn hd
  have heb := prB_b hn he
  have q1 := LDR_dig (f := H t) hn hdb.1 hdb.2
  have q2 := LDR_dig (f := H t) hn heb.1 heb.2
  rw [h, Int.zero_ediv, show gL (prB n) (H t) d = leadOf (prB n) (H t) d from if_pos hd] at q1
  rw [h, Int.zero_ediv, show gL (prB n) (H t) e = leadOf (prB n) (H t) e from if_pos he] at q2
  exact (leadOf_eq (f := H t) hdb.1 heb.1 hd he).mp (by rw [← q1, ← q2])
theorem alM_cg {vt vt' : Int → Prop} {H : Int → Int → Int} {pr : Int → Bool} {d : Int} (h : ∀ e, pr e = true → (AL vt H d e ↔ AL vt' H d e)) : alM vt H pr d = alM vt' H pr d := by
  refine cm_ext 13 (fun j hj => ?_)
  by_cases p : pr (j : Int) = true
  · by_cases q : AL vt H d (j : Int)
    · rw [alB_t.mpr ⟨p, q⟩, alB_t.mpr ⟨p, (h _ p).mp q⟩]
    · rw [Bool.eq_false_iff.mpr (fun z => q (alB_t.mp z).2), Bool.eq_false_iff.mpr (fun z => q ((h _ p).mpr (alB_t.mp z).2))]
  · rw [Bool.eq_false_iff.mpr (fun z => p (alB_t.mp z).1), Bool.eq_false_iff.mpr (fun z => p (alB_t.mp z).1)]
theorem alM_t {vt : Int → Prop} {H : Int → Int → Int} {pr : Int → Bool} {d e : Int} (h0 : 0 ≤ e) (h1 : e < 13) : tb (alM vt H pr d) e = true ↔ pr e = true ∧ AL vt H d e := by
  unfold alM
  rw [cm_13 _ h0 h1]
  exact alB_t
theorem alM_land {nb n t d : Int} {H : Int → Int → Int} (hn : 0 ≤ n ∧ n ≤ 6) (ht : VTt nb n t) (hd : prB n d = true) : land (alM (VTs nb n t) H (prB n) d) (PT H t (cm (prB n) 13) d) = alM (VTs nb n (t + 1)) H (prB n) d := by
  have hab := cm_13b (alB (VTs nb n t) H (prB n) d)
  have hpb : 0 ≤ PT H t (cm (prB n) 13) d ∧ PT H t (cm (prB n) 13) d < 8192 := cm_13b _
  have hlb := land_b (a := alM (VTs nb n t) H (prB n) d) hab.1 hpb.1
  have hab2 : alM (VTs nb n t) H (prB n) d < 8192 := hab.2
  refine mask_ext ⟨hlb.1, by omega⟩ (cm_13b _) (fun e h0 h1 => ?_)
  have key : tb (land (alM (VTs nb n t) H (prB n) d) (PT H t (cm (prB n) 13) d)) e = true ↔ tb (alM (VTs nb n (t + 1)) H (prB n) d) e = true := by
    rw [tb_land, Bool.and_eq_true]
    rw [alM_t h0 h1, alM_t h0 h1]
    constructor
    · rintro ⟨⟨p, a⟩, q⟩
      have q2 := (me_PT.mp ⟨⟨h0, h1⟩, q⟩).2
      refine ⟨p, fun s hs => ?_⟩
      rcases (by have := hs.2; omega : s < t ∨ s = t) with w | w
      · exact a s ⟨hs.1, w⟩
      · rw [w]; exact q2.symm
    · rintro ⟨p, a⟩
      exact ⟨⟨p, fun s hs => a s ⟨hs.1, by have := hs.2; omega⟩⟩, (me_PT.mpr ⟨(me_pr hn).mpr p, (a t ⟨ht, by omega⟩).symm⟩).2⟩
  cases q1 : tb (land (alM (VTs nb n t) H (prB n) d) (PT H t (cm (prB n) 13) d)) e <;> cases q2 : tb (alM (VTs nb n (t + 1)) H (prB n) d) e <;> simp_all
theorem TBs.zero {nb n : Int} {H : Int → Int → Int} {l U P K : Int → Int} (h8 : ∀ d, 0 ≤ K d ∧ K d < 8192) (hK : ∀ d, 0 ≤ d → d < 13 → K d = cm (prB n) 13) (hn : 0 ≤ n ∧ n ≤ 6) : TBs nb n H 0 0 l U P K := by
  refine ⟨by omega, fun x _ _ => by omega, fun u _ _ => by omega, fun u v _ _ _ => by omega, fun s hs _ => by have := hs.1; omega, h8, fun d hd => ?_⟩
  have hb := prB_b hn hd
  rw [hK d hb.1 hb.2]
  refine cm_ext 13 (fun j hj => ?_)
  by_cases p : prB n (j : Int) = true
  · rw [p, alB_t.mpr ⟨p, fun s hs => by have := hs.1.1; have := hs.2; omega⟩]
  · rw [Bool.eq_false_iff.mpr p, Bool.eq_false_iff.mpr (fun z => p (alB_t.mp z).1)]
theorem TBs.skip {nb n t cu v : Int} {H : Int → Int → Int} {l U P K : Int → Int} (hn : 0 ≤ n ∧ n ≤ 6) (h : TBs nb n H t cu l U P K) (hv : VTt nb n t → v = LDR n (H t)) (hv0 : ¬ VTt nb n t → v = 0) (hs : v = 0 ∨ ∃ u, (0 ≤ u ∧ u < cu) ∧ l (U u) = v) : TBs nb n H (t + 1) cu (upZ l t v) U P K := by
  obtain ⟨h1, h2, h3, h4, h5, h6, h7⟩ := h
  refine ⟨by omega, fun x x0 x1 => ?_, fun u u0 u1 => ⟨(h3 u u0 u1).1, by have := (h3 u u0 u1).2.1; omega, (h3 u u0 u1).2.2⟩, h4, fun s g1 g2 g3 => ?_, h6, fun d hd => ?_⟩
  · by_cases e : x = t
    · rw [e, upZ_s]; exact ⟨hv, hv0⟩
    · rw [upZ_n e]; exact h2 x x0 (by omega)
  · rcases (by omega : s < t ∨ s = t) with q | q
    · exact h5 s g1 q g3
    · subst q
      rw [← hv g1] at g3 ⊢
      rcases hs with w | ⟨u, w1, w2⟩
      · exact absurd w g3
      · have h3u := h3 u w1.1 w1.2
        exact ⟨u, w1, by omega, by rw [← w2, (h2 (U u) h3u.1.1.1 h3u.2.1).1 h3u.1]⟩
  · rw [h7 d hd]
    refine alM_cg (fun e he => ⟨fun a s hs2 => ?_, fun a s hs2 => a s ⟨hs2.1, by have := hs2.2; omega⟩⟩)
    rcases (by have := hs2.2; omega : s < t ∨ s = t) with w | w
    · exact a s ⟨hs2.1, w⟩
    · subst w
      have hvv := hv hs2.1
      rcases hs with w | ⟨u, w1, w2⟩
      · exact LDR_0 hn (by rw [← hvv]; exact w) hd he
      · have h3u := h3 u w1.1 w1.2
        have e3 : LDR n (H (U u)) = LDR n (H s) := by rw [← hvv, ← w2, (h2 (U u) h3u.1.1.1 h3u.2.1).1 h3u.1]
        exact (LDR_eq hn e3 hd he).mp (a (U u) ⟨h3u.1, h3u.2.1⟩)
theorem TBs.add {nb n t cu v : Int} {H : Int → Int → Int} {l U P K P' K' : Int → Int} (hn : 0 ≤ n ∧ n ≤ 6) (h : TBs nb n H t cu l U P K) (hvt : VTt nb n t) (hv : v = LDR n (H t)) (hP : ∀ x, x < cu * 13 → P' x = P x) (hp : PRT n H t P' (cu * 13)) (hk8 : ∀ d, 0 ≤ K' d ∧ K' d < 8192) (hk : ∀ d, prB n d = true → K' d = land (K d) (PT H t (cm (prB n) 13) d)) : TBs nb n H (t + 1) (cu + 1) (upZ l t v) (upZ U cu t) P' K' := by
  obtain ⟨h1, h2, h3, h4, h5, h6, h7⟩ := h
  refine ⟨by omega, fun x x0 x1 => ?_, fun u u0 u1 => ?_, fun u w u0 u1 u2 => ?_, fun s g1 g2 g3 => ?_, hk8, fun d hd => ?_⟩
  · by_cases e : x = t
    · rw [e, upZ_s]; exact ⟨fun _ => hv, fun z => absurd hvt z⟩
    · rw [upZ_n e]; exact h2 x x0 (by omega)
  · rcases (by omega : u < cu ∨ u = cu) with q | q
    · obtain ⟨a1, a2, J, a3, a4, a5, a6⟩ := h3 u u0 q
      rw [upZ_n (by omega)]
      have hcg : ∀ j, j < 13 → P' (u * 13 + j) = P (u * 13 + j) := fun j hj => hP _ (by omega)
      refine ⟨a1, by omega, J, a3, fun j j0 j1 => ?_, fun z => ?_, fun x hx => ?_⟩
      · rw [hcg j (by omega)]; exact a4 j j0 j1
      · rw [hcg J z]; exact a5 z
      · obtain ⟨j, b1, b2⟩ := a6 x hx
        exact ⟨j, b1, by rw [hcg j (by omega)]; exact b2⟩
    · rw [q, upZ_s]
      exact ⟨hvt, by omega, hp⟩
  · rcases (by omega : w < cu ∨ w = cu) with q | q
    · rw [upZ_n (by omega), upZ_n (by omega)]; exact h4 u w u0 u1 q
    · rw [q, upZ_s, upZ_n (by omega)]; exact (h3 u u0 (by omega)).2.1
  · rcases (by omega : s < t ∨ s = t) with q | q
    · obtain ⟨u, a1, a2, a3⟩ := h5 s g1 q g3
      exact ⟨u, ⟨a1.1, by omega⟩, by rw [upZ_n (by omega)]; exact a2, by rw [upZ_n (by omega)]; exact a3⟩
    · exact ⟨cu, ⟨by omega, by omega⟩, by rw [upZ_s]; omega, by rw [upZ_s, q]⟩
  · rw [hk d hd, h7 d hd]
    exact alM_land hn hvt hd
/-- one of all that are alike, and all there -/
def MGD (n : Int) (vt : Int → Prop) (H : Int → Int → Int) (S : Int) : Prop := (∀ d, me S d → prB n d = true) ∧ ∀ c d, me S c → me S d → AL vt H c d → c = d
/-- what is known of sets -/
def KN (n : Int) (vt : Int → Prop) (H : Int → Int → Int) (N : Int → Int) : Prop := ∀ S, (0 ≤ S ∧ S < 8192) → MGD n vt H S → (0 ≤ N S / 16 ∧ N S / 16 ≤ 13 ∧ N S % 16 ≤ 13) ∧ (0 < N S % 16 → ¬ NL vt H (N S % 16).toNat S) ∧ (N S / 16 ≠ 0 → NL vt H (N S / 16).toNat S)
theorem KN.zero {n : Int} {vt : Int → Prop} {H : Int → Int → Int} {N : Int → Int} (h : ∀ S, 0 ≤ S ∧ S < 8192 → N S = 0) : KN n vt H N := by
  intro S hS _
  rw [h S hS]
  exact ⟨by decide, fun z => absurd z (by decide), fun z => absurd rfl z⟩
/-- the tables, built -/
def TBL (nb n : Int) (H : Int → Int → Int) (cu cp : Int) (l U P K N w : Int → Int) : Prop := cp = cm (prB n) 13 ∧ TBs nb n H 128 cu l U P K ∧ (∀ x, 0 ≤ l x ∧ l x < 4503599627370496) ∧ (∀ d, InR (w d)) ∧ KN n (VTt nb n) H N
set_option maxHeartbeats 4000000 in
set_option maxRecDepth 100000 in
theorem c_J7_fill_53178 {l : Launch} {G : GT} {a N : Nat} {g : Int → Int} {v : Int} (hN : N < 2147483648) : Con l G yJ7_fill_53178 cJ7_fill_53178 4 none { frames := 0, cells := 0, slots := 0, locals := 0 } [.ref a, .int (iI v)] [(a, eI G N g)] (S := Int → Int) (fun _ => none) (fun u => [(a, eI G N u)]) (fun u => ∀ d, u d = if 0 ≤ d ∧ d < (N : Int) then v else g d) := by
  refine Con.mk (by decide +kernel) [some (.ref a), some (.int (iI v)), none, none] rfl (Nat.le_of_ble_eq_true rfl) rfl ?_
  intro V M EI EL EV EA
  refine M.iconst (pc := 0) dJ7_fill_53178_0 ?_
  refine M.istoren (pc := 1) 2 rfl (Nat.le_of_ble_eq_true rfl) rfl dJ7_fill_53178_1 ?_
  dsimp only [List.set_cons_zero, List.set_cons_succ]
  refine M.aloadn (pc := 2) 0 rfl rfl dJ7_fill_53178_2 ?_
  refine M.alenI (pc := 3) 0 rfl dJ7_fill_53178_3 ?_
  refine M.istoren (pc := 4) 3 rfl (Nat.le_of_ble_eq_true rfl) rfl dJ7_fill_53178_4 ?_
  dsimp only [List.set_cons_zero, List.set_cons_succ]
  have L5 : ∀ (fu : Nat) {k : Int} {w : Int → Int}, (0 ≤ k ∧ k ≤ (N : Int)) → (∀ d, w d = if 0 ≤ d ∧ d < k then v else g d) → ((N : Int) - k).toNat < fu → V 0 0 5 [(a, eI G N w)] [some (.ref a), some (.int (iI v)), some (.int (iI k)), some (.int (iI (N : Int)))] [] := by
    intro fu
    induction fu with
    | zero => intro k w hk hw hm; exact absurd hm (Nat.not_lt_zero _)
    | succ fu ih5 =>
      intro k w hk hw hm5
      refine M.iloadn (pc := 5) 2 rfl rfl dJ7_fill_53178_5 ?_
      refine M.iloadn (pc := 6) 3 rfl rfl dJ7_fill_53178_6 ?_
      refine M.icmp_ge (pc := 7) (tgt := 20) dJ7_fill_53178_7 (by decide) (by omega) (by omega) (fun c7 => ?_) (fun c7 => ?_)
      · exact EV w _ _ _ dJ7_fill_53178_20 rfl (rfl) (rfl) (fun d => by rw [hw d, show k = (N : Int) by omega])
      · refine M.aloadn (pc := 10) 0 rfl rfl dJ7_fill_53178_10 ?_
        refine M.iloadn (pc := 11) 2 rfl rfl dJ7_fill_53178_11 ?_
        refine M.iloadn (pc := 12) 1 rfl rfl dJ7_fill_53178_12 ?_
        refine M.iast (pc := 13) 0 rfl (by omega) (by omega) dJ7_fill_53178_13 ?_
        dsimp only [List.set_cons_zero, List.set_cons_succ]
        refine M.iinc (pc := 14) (i := 2) rfl rfl dJ7_fill_53178_14 ?_
        dsimp only [List.set_cons_zero, List.set_cons_succ]
        refine M.goto (pc := 17) (tgt := 5) dJ7_fill_53178_17 (by decide) ?_
        exact ih5  (by first | assumption | omega) (by intro d; by_cases e : d = k; rw [e, upZ_s, if_pos ⟨hk.1, by omega⟩]; rw [upZ_n e, hw d]; have q : (0 ≤ d ∧ d < k + 1) ↔ (0 ≤ d ∧ d < k) := (by omega); simp only [q]) (by omega)
  exact L5 _  (by first | assumption | omega) (by intro d; exact (if_neg (by omega)).symm) (Nat.lt_succ_self _)
set_option maxHeartbeats 4000000 in
set_option maxRecDepth 100000 in
theorem c_X0_build {l : Launch} {G : GT} {t aL aU aP aK aN aH : Nat} {cu cp : Int} {cb : Bool} {wL : Int → Int} {wU : Int → Int} {wP : Int → Int} {wK : Int → Int} {wN : Int → Int} {wH : Int → Int} {h hb ht : Nat} {fb ft : Int → Int} {nb n od : Int} (hn : 0 ≤ n ∧ n ≤ 6) (hnb : 0 ≤ nb ∧ nb ≤ 2) (hB : HB fb) (hT : HT ft) (ho : 0 ≤ od ∧ od ≤ 999) (hwL : ∀ x, 0 ≤ wL x ∧ wL x < 4503599627370496) (hwK : ∀ d, 0 ≤ wK d ∧ wK d < 8192) (hwH : ∀ d, InR (wH d)) (hbl : cb = true → TBL nb n (hC fb ft od n) cu cp wL wU wP wK wN wH) : Con l G yX0_build cX0_build 3 none { frames := 4, cells := 0, slots := 0, locals := 93 } [.ref t, .ref h] [(t, eO 0 [.ref aL, .ref aU, .ref aP, .ref aK, .ref aN, .ref aH, .int (iI cu), .int (iI cp), .int (iI (pI (cb = true)))]), (aL, eL G 128 wL), (aU, eI G 128 wU), (aP, eI G 1664 wP), (aK, eI G 13 wK), (aN, eI G 8192 wN), (aH, eI G 13 wH), (h, eO 3 [.ref hb, .ref ht, .int (iI nb), .int (iI n), .int (iI od)]), (hb, eI G 8 fb), (ht, eI G 24 ft)] (S := Int × Int × (Int → Int) × (Int → Int) × (Int → Int) × (Int → Int) × (Int → Int) × (Int → Int)) (fun _ => none) (fun u => [(t, eO 0 [.ref aL, .ref aU, .ref aP, .ref aK, .ref aN, .ref aH, .int (iI u.1), .int (iI u.2.1), .int (iI (pI (true = true)))]), (aL, eL G 128 u.2.2.1), (aU, eI G 128 u.2.2.2.1), (aP, eI G 1664 u.2.2.2.2.1), (aK, eI G 13 u.2.2.2.2.2.1), (aN, eI G 8192 u.2.2.2.2.2.2.1), (aH, eI G 13 u.2.2.2.2.2.2.2), (h, eO 3 [.ref hb, .ref ht, .int (iI nb), .int (iI n), .int (iI od)]), (hb, eI G 8 fb), (ht, eI G 24 ft)]) (fun u => TBL nb n (hC fb ft od n) (u.1) (u.2.1) (u.2.2.1) (u.2.2.2.1) (u.2.2.2.2.1) (u.2.2.2.2.2.1) (u.2.2.2.2.2.2.1) (u.2.2.2.2.2.2.2)) := by
  refine Con.mk (by decide +kernel) [some (.ref t), some (.ref h), none] rfl (Nat.le_of_ble_eq_true rfl) rfl ?_
  intro V M EI EL EV EA
  have hp2 := p2_b (by omega : n ≤ 13)
  have hp6 := p2_6 hn.2
  have hpb := cm_13b (prB n)
  refine M.aloadn (pc := 0) 0 rfl rfl dX0_build_0 ?_
  refine M.getf (pc := 1) fg_X0_31 0 rfl rfl dX0_build_1 ?_
  refine M.if_eqP (pc := 4) (tgt := 8) dX0_build_4 (by decide) (fun c4 => ?_) (fun c4 => ?_)
  · refine M.aloadn (pc := 8) 0 rfl rfl dX0_build_8 ?_
    refine M.iconst (pc := 9) dX0_build_9 ?_
    refine M.putfZ (pc := 10) (true) (by rfl) fp_X0_31 0 rfl (Nat.le_of_ble_eq_true rfl) dX0_build_10 ?_
    dsimp only [List.set_cons_zero, List.set_cons_succ]
    refine M.aloadn (pc := 13) 0 rfl rfl dX0_build_13 ?_
    refine M.aloadn (pc := 14) 1 rfl rfl dX0_build_14 ?_
    refine M.pS (pc := 15) (c_X0_presentIn  (by first | assumption | omega)) ms_X0_35 [7] rfl rfl rfl rfl (Nat.le_of_ble_eq_true rfl) rfl ⟨(Nat.le_of_ble_eq_true rfl), (Nat.le_of_ble_eq_true rfl)⟩ ⟨(Nat.le_of_ble_eq_true rfl), (Nat.le_of_ble_eq_true rfl)⟩ rfl dX0_build_15 ?_
    refine M.putf (pc := 18) fp_X0_39 0 rfl rfl rfl (Nat.le_of_ble_eq_true rfl) dX0_build_18 ?_
    dsimp only [List.set_cons_zero, List.set_cons_succ]
    refine M.aloadn (pc := 21) 0 rfl rfl dX0_build_21 ?_
    refine M.iconst (pc := 22) dX0_build_22 ?_
    refine M.putf (pc := 23) fp_X0_43 0 rfl rfl rfl (Nat.le_of_ble_eq_true rfl) dX0_build_23 ?_
    dsimp only [List.set_cons_zero, List.set_cons_succ]
    refine M.aloadn (pc := 26) 0 rfl rfl dX0_build_26 ?_
    refine M.getf (pc := 27) fg_X0_25 0 rfl rfl dX0_build_27 ?_
    refine M.iconst (pc := 30) dX0_build_30 ?_
    refine M.mS (pc := 31) (c_J7_fill_53178 (N := 8192) (by omega)) ms_X0_46 [5] rfl rfl rfl rfl (Nat.le_of_ble_eq_true rfl) rfl ⟨(Nat.le_of_ble_eq_true rfl), (Nat.le_of_ble_eq_true rfl)⟩ ⟨(Nat.le_of_ble_eq_true rfl), (Nat.le_of_ble_eq_true rfl)⟩ rfl (fun _ => rfl) dX0_build_31 (fun u31 hu31 => ?_)
    dsimp only [putL, List.set_cons_zero, List.set_cons_succ, Option.toList, List.cons_append, List.nil_append] at hu31 ⊢
    refine M.aloadn (pc := 34) 0 rfl rfl dX0_build_34 ?_
    refine M.getf (pc := 35) fg_X0_22 0 rfl rfl dX0_build_35 ?_
    refine M.aloadn (pc := 38) 0 rfl rfl dX0_build_38 ?_
    refine M.getf (pc := 39) fg_X0_39 0 rfl rfl dX0_build_39 ?_
    refine M.mS (pc := 42) (c_J7_fill_53178 (N := 13) (by omega)) ms_X0_46 [4] rfl rfl rfl rfl (Nat.le_of_ble_eq_true rfl) rfl ⟨(Nat.le_of_ble_eq_true rfl), (Nat.le_of_ble_eq_true rfl)⟩ ⟨(Nat.le_of_ble_eq_true rfl), (Nat.le_of_ble_eq_true rfl)⟩ rfl (fun _ => rfl) dX0_build_42 (fun u42 hu42 => ?_)
    dsimp only [putL, List.set_cons_zero, List.set_cons_succ, Option.toList, List.cons_append, List.nil_append] at hu42 ⊢
    refine M.iconst (pc := 45) dX0_build_45 ?_
    refine M.istoren (pc := 46) 2 rfl (Nat.le_of_ble_eq_true rfl) rfl dX0_build_46 ?_
    dsimp only [List.set_cons_zero, List.set_cons_succ]
    have L47 : ∀ (fu : Nat) {T cu1 : Int} {l1 U1 P1 K1 w1 : Int → Int}, (0 ≤ T ∧ T ≤ 128) → (TBs nb n (hC fb ft od n) T cu1 l1 U1 P1 K1) → (∀ x, 0 ≤ l1 x ∧ l1 x < 4503599627370496) → (∀ d, InR (w1 d)) → (128 - T).toNat < fu → V 0 0 47 [(t, eO 0 [.ref aL, .ref aU, .ref aP, .ref aK, .ref aN, .ref aH, .int (iI cu1), .int (iI (cm (prB n) 13)), .int (iI (pI (true = true)))]), (aL, eL G 128 l1), (aU, eI G 128 U1), (aP, eI G 1664 P1), (aK, eI G 13 K1), (aN, eI G 8192 u31), (aH, eI G 13 w1), (h, eO 3 [.ref hb, .ref ht, .int (iI nb), .int (iI n), .int (iI od)]), (hb, eI G 8 fb), (ht, eI G 24 ft)] [some (.ref t), some (.ref h), some (.int (iI T))] [] := by
      intro fu
      induction fu with
      | zero => intro T cu1 l1 U1 P1 K1 w1 hT0 hTB hlb hwb hm; exact absurd hm (Nat.not_lt_zero _)
      | succ fu ih47 =>
        intro T cu1 l1 U1 P1 K1 w1 hT0 hTB hlb hwb hm47
        refine M.iloadn (pc := 47) 2 rfl rfl dX0_build_47 ?_
        refine M.aloadn (pc := 48) 0 rfl rfl dX0_build_48 ?_
        refine M.getf (pc := 49) fg_X0_11 0 rfl rfl dX0_build_49 ?_
        refine M.alenL (pc := 52) 1 rfl dX0_build_52 ?_
        refine M.icmp_ge (pc := 53) (tgt := 124) dX0_build_53 (by decide) (by omega) (by omega) (fun c53 => ?_) (fun c53 => ?_)
        · exact EV (cu1, (cm (prB n) 13), l1, U1, P1, K1, u31, w1) _ _ _ dX0_build_124 rfl (rfl) (rfl) (⟨rfl, by rw [show T = 128 by omega] at hTB; exact hTB, hlb, hwb, KN.zero (fun S hS => by show u31 S = 0; rw [hu31 S, if_pos (by omega)])⟩)
        · have L93 : ∀ {v : Int} {w2 : Int → Int}, (VTt nb n T → v = LDR n ((hC fb ft od n) T)) → (¬ VTt nb n T → v = 0) → (∀ d, InR (w2 d)) → V 0 0 93 [(t, eO 0 [.ref aL, .ref aU, .ref aP, .ref aK, .ref aN, .ref aH, .int (iI cu1), .int (iI (cm (prB n) 13)), .int (iI (pI (true = true)))]), (aL, eL G 128 l1), (aU, eI G 128 U1), (aP, eI G 1664 P1), (aK, eI G 13 K1), (aN, eI G 8192 u31), (aH, eI G 13 w2), (h, eO 3 [.ref hb, .ref ht, .int (iI nb), .int (iI n), .int (iI od)]), (hb, eI G 8 fb), (ht, eI G 24 ft)] [some (.ref t), some (.ref h), some (.int (iI T))] [.long (lI v), .int (iI T), .ref aL] := by
            intro v w2 hv1 hv2 hwb2
            refine M.lastore (pc := 93) 1 rfl (by omega) (by omega) dX0_build_93 ?_
            dsimp only [List.set_cons_zero, List.set_cons_succ]
            have hvb : 0 ≤ v ∧ v < 4503599627370496 := by
              by_cases q : VTt nb n T
              · rw [hv1 q]; exact LDR_b hn
              · rw [hv2 q]; omega
            have hlb2 : ∀ x, 0 ≤ upZ l1 T v x ∧ upZ l1 T v x < 4503599627370496 := fun x => by
              by_cases e : x = T
              · rw [e, upZ_s]; exact hvb
              · rw [upZ_n e]; exact hlb x
            refine M.aloadn (pc := 94) 0 rfl rfl dX0_build_94 ?_
            have L118 : ∀ {cu3 : Int} {U3 P3 K3 : Int → Int}, (TBs nb n (hC fb ft od n) (T + 1) cu3 (upZ l1 T v) U3 P3 K3) → V 0 0 118 [(t, eO 0 [.ref aL, .ref aU, .ref aP, .ref aK, .ref aN, .ref aH, .int (iI cu3), .int (iI (cm (prB n) 13)), .int (iI (pI (true = true)))]), (aL, eL G 128 (upZ l1 T v)), (aU, eI G 128 U3), (aP, eI G 1664 P3), (aK, eI G 13 K3), (aN, eI G 8192 u31), (aH, eI G 13 w2), (h, eO 3 [.ref hb, .ref ht, .int (iI nb), .int (iI n), .int (iI od)]), (hb, eI G 8 fb), (ht, eI G 24 ft)] [some (.ref t), some (.ref h), some (.int (iI T))] [] := by
              intro cu3 U3 P3 K3 hTB3
              refine M.iinc (pc := 118) (i := 2) rfl rfl dX0_build_118 ?_
              dsimp only [List.set_cons_zero, List.set_cons_succ]
              refine M.goto (pc := 121) (tgt := 47) dX0_build_121 (by decide) ?_
              exact ih47  (by first | assumption | omega) (by exact hTB3) (by exact hlb2) (by exact hwb2) (by omega)
            refine M.getf (pc := 95) fg_X0_11 0 rfl rfl dX0_build_95 ?_
            refine M.iloadn (pc := 98) 2 rfl rfl dX0_build_98 ?_
            refine M.lald (pc := 99) 1 rfl (by omega) (by omega) dX0_build_99 ?_
            rw [upZ_s]
            refine M.lconst (pc := 100) 0 (by decide +kernel) dX0_build_100 ?_
            refine M.lcmp (pc := 101) (by omega) (by omega) dX0_build_101 ?_
            refine M.if_eq (pc := 102) (tgt := 118) dX0_build_102 (by decide) (by omega) (fun c102 => ?_) (fun c102 => ?_)
            · exact L118  (by exact hTB.skip hn hv1 hv2 (Or.inl (by omega)))
            · refine M.aloadn (pc := 105) 0 rfl rfl dX0_build_105 ?_
              refine M.iloadn (pc := 106) 2 rfl rfl dX0_build_106 ?_
              refine M.mV (pc := 107) (c_X0_isNew  (by first | assumption | omega) (by exact hlb2) (by have := hTB.1; omega) (by exact fun x x0 x1 => by have := (hTB.2.2.1 x x0 x1).2.1; have := (hTB.2.2.1 x x0 x1).1.1; omega)) mv_X0_72 [0, 1, 2] rfl rfl rfl 0 rfl rfl rfl rfl (Nat.le_of_ble_eq_true rfl) rfl ⟨(Nat.le_of_ble_eq_true rfl), (Nat.le_of_ble_eq_true rfl)⟩ ⟨(Nat.le_of_ble_eq_true rfl), (Nat.le_of_ble_eq_true rfl)⟩ rfl (fun _ => rfl) dX0_build_107 (fun u107 hu107 => ?_)
              dsimp only [putL, List.set_cons_zero, List.set_cons_succ, Option.toList, List.cons_append, List.nil_append] at hu107 ⊢
              refine M.if_eqP (pc := 110) (tgt := 118) dX0_build_110 (by decide) (fun c110 => ?_) (fun c110 => ?_)
              · exact L118  (by exact hTB.skip hn hv1 hv2 (Or.inr (Classical.byContradiction (fun z => c110 (hu107.mpr (fun x x0 x1 y => z ⟨x, ⟨x0, x1⟩, by rw [upZ_s, upZ_n (by have := (hTB.2.2.1 x x0 x1).2.1; omega)] at y; exact y⟩))))))
              · have hv0 : v ≠ 0 := by omega
                have hvt : VTt nb n T := Classical.byContradiction (fun z => hv0 (hv2 z))
                have hvv := hv1 hvt
                have hcul : 0 ≤ cu1 ∧ cu1 < 128 := by have := hTB.1; omega
                refine M.aloadn (pc := 113) 0 rfl rfl dX0_build_113 ?_
                refine M.iloadn (pc := 114) 2 rfl rfl dX0_build_114 ?_
                refine M.mV (pc := 115) (c_X0_addUseful (H := (hC fb ft od n)) (n := n) (by first | assumption | omega) (by rfl) (by first | assumption | omega) (by exact hlb2) (by exact hcul) (by rw [upZ_s]; exact hvv) (by exact hTB.2.2.2.2.2.1)) mv_X0_75 [0, 1, 2, 3, 4] rfl rfl rfl 0 rfl rfl rfl rfl (Nat.le_of_ble_eq_true rfl) rfl ⟨(Nat.le_of_ble_eq_true rfl), (Nat.le_of_ble_eq_true rfl)⟩ ⟨(Nat.le_of_ble_eq_true rfl), (Nat.le_of_ble_eq_true rfl)⟩ rfl (fun _ => rfl) dX0_build_115 (fun u115 hu115 => ?_)
                obtain ⟨p115, k115⟩ := u115
                dsimp only [putL, List.set_cons_zero, List.set_cons_succ, Option.toList, List.cons_append, List.nil_append] at hu115 ⊢
                exact L118  (by exact hTB.add hn hvt hvv hu115.1 hu115.2.1 hu115.2.2.1 hu115.2.2.2)
          refine M.aloadn (pc := 56) 0 rfl rfl dX0_build_56 ?_
          refine M.getf (pc := 57) fg_X0_11 0 rfl rfl dX0_build_57 ?_
          refine M.iloadn (pc := 60) 2 rfl rfl dX0_build_60 ?_
          refine M.aloadn (pc := 61) 1 rfl rfl dX0_build_61 ?_
          refine M.iloadn (pc := 62) 2 rfl rfl dX0_build_62 ?_
          refine M.pS (pc := 63) (c_X0_bathOf  (by first | assumption | omega)) ms_X0_52 [] rfl rfl rfl rfl (Nat.le_of_ble_eq_true rfl) rfl ⟨(Nat.le_of_ble_eq_true rfl), (Nat.le_of_ble_eq_true rfl)⟩ ⟨(Nat.le_of_ble_eq_true rfl), (Nat.le_of_ble_eq_true rfl)⟩ rfl dX0_build_63 ?_
          refine M.pV (pc := 66) (c_X3_hasBath  (by first | assumption | omega) (by first | assumption | omega)) mv_X0_56 [7] rfl rfl rfl 7 rfl rfl rfl rfl (Nat.le_of_ble_eq_true rfl) rfl ⟨(Nat.le_of_ble_eq_true rfl), (Nat.le_of_ble_eq_true rfl)⟩ ⟨(Nat.le_of_ble_eq_true rfl), (Nat.le_of_ble_eq_true rfl)⟩ rfl dX0_build_66 ?_
          refine M.if_eqP (pc := 69) (tgt := 92) dX0_build_69 (by decide) (fun c69 => ?_) (fun c69 => ?_)
          · refine M.lconst (pc := 92) 0 (by decide +kernel) dX0_build_92 ?_
            exact L93 (v := 0) (w2 := w1) (by intro z; first | exact absurd ⟨by have := z.1; omega, z.2.1⟩ c69 | exact absurd ⟨by omega, z.2.2⟩ c80) (by intro _; rfl) (by exact hwb)
          · refine M.aloadn (pc := 72) 1 rfl rfl dX0_build_72 ?_
            refine M.iloadn (pc := 73) 2 rfl rfl dX0_build_73 ?_
            refine M.pS (pc := 74) (c_X0_setOf  (by first | assumption | omega)) ms_X0_62 [] rfl rfl rfl rfl (Nat.le_of_ble_eq_true rfl) rfl ⟨(Nat.le_of_ble_eq_true rfl), (Nat.le_of_ble_eq_true rfl)⟩ ⟨(Nat.le_of_ble_eq_true rfl), (Nat.le_of_ble_eq_true rfl)⟩ rfl dX0_build_74 ?_
            refine M.pV (pc := 77) (c_X3_hasSet  (by first | assumption | omega) (by first | assumption | omega)) mv_X0_65 [7] rfl rfl rfl 7 rfl rfl rfl rfl (Nat.le_of_ble_eq_true rfl) rfl ⟨(Nat.le_of_ble_eq_true rfl), (Nat.le_of_ble_eq_true rfl)⟩ ⟨(Nat.le_of_ble_eq_true rfl), (Nat.le_of_ble_eq_true rfl)⟩ rfl dX0_build_77 ?_
            refine M.if_eqP (pc := 80) (tgt := 92) dX0_build_80 (by decide) (fun c80 => ?_) (fun c80 => ?_)
            · refine M.lconst (pc := 92) 0 (by decide +kernel) dX0_build_92 ?_
              exact L93 (v := 0) (w2 := w1) (by intro z; first | exact absurd ⟨by have := z.1; omega, z.2.1⟩ c69 | exact absurd ⟨by omega, z.2.2⟩ c80) (by intro _; rfl) (by exact hwb)
            · refine M.aloadn (pc := 83) 0 rfl rfl dX0_build_83 ?_
              refine M.aloadn (pc := 84) 1 rfl rfl dX0_build_84 ?_
              refine M.iloadn (pc := 85) 2 rfl rfl dX0_build_85 ?_
              refine M.mV (pc := 86) (c_X0_leadersOf  (by first | assumption | omega) (by first | assumption | omega) (by first | assumption | omega) (by first | assumption | omega) (by first | assumption | omega) (by rfl) (by exact hwb) (by first | assumption | omega) (by omega)) mv_X0_68 [0, 6, 7, 8, 9] rfl rfl rfl 0 rfl rfl rfl rfl (Nat.le_of_ble_eq_true rfl) rfl ⟨(Nat.le_of_ble_eq_true rfl), (Nat.le_of_ble_eq_true rfl)⟩ ⟨(Nat.le_of_ble_eq_true rfl), (Nat.le_of_ble_eq_true rfl)⟩ rfl (fun _ => rfl) dX0_build_86 (fun u86 hu86 => ?_)
              dsimp only [putL, List.set_cons_zero, List.set_cons_succ, Option.toList, List.cons_append, List.nil_append] at hu86 ⊢
              refine M.goto (pc := 89) (tgt := 93) dX0_build_89 (by decide) ?_
              exact L93 (v := (LDR n ((hC fb ft od n) T))) (w2 := u86) (by intro _; rfl) (by intro z; exact absurd ⟨⟨by omega, by omega⟩, c69.2, c80.2⟩ z) (by exact hu86)
    exact L47 _  (by first | assumption | omega) (by exact TBs.zero (fun d => by rw [hu42 d]; split; exact hpb; exact hwK d) (fun d d0 d1 => by rw [hu42 d, if_pos ⟨d0, by omega⟩]) hn) (by exact hwL) (by exact hwH) (Nat.lt_succ_self _)
  · subst c4
    exact EV (cu, cp, wL, wU, wP, wK, wN, wH) _ _ _ dX0_build_7 rfl (rfl) (rfl) (hbl rfl)
