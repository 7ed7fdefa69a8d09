/-! CONGRUENCE: the rows behind the last one don't matter -/
theorem EQ4.row {f g : Int → Int} {n b : Int} (h : EQ4 f g n) (h0 : 0 ≤ b) (h1 : b < n) : f (b * 4 + 0) = g (b * 4 + 0) ∧ f (b * 4 + 1) = g (b * 4 + 1) ∧ f (b * 4 + 2) = g (b * 4 + 2) ∧ f (b * 4 + 3) = g (b * 4 + 3) := ⟨h _ (by omega) (by omega), h _ (by omega) (by omega), h _ (by omega) (by omega), h _ (by omega) (by omega)⟩
theorem EQ4.symm {f g : Int → Int} {n : Int} (h : EQ4 f g n) : EQ4 g f n := fun x h0 h1 => (h x h0 h1).symm
theorem EQ4.trans {f g k : Int → Int} {n : Int} (h : EQ4 f g n) (h' : EQ4 g k n) : EQ4 f k n := fun x h0 h1 => (h x h0 h1).trans (h' x h0 h1)
section ROWCG
variable {fb gb ft gt : Int → Int} {nb n b : Int}
theorem hMea_cg (h : EQ4 fb gb nb) (h0 : 0 ≤ b) (h1 : b < nb) : hMea fb b = hMea gb b := by
  have r := h.row h0 h1
  unfold hMea
  rw [r.1, r.2.1]
theorem hWat_cg (h : EQ4 fb gb nb) (h0 : 0 ≤ b) (h1 : b < nb) (hr : Int) : hWat fb b hr = hWat gb b hr := by
  have r := h.row h0 h1
  unfold hWat
  rw [r.2.2.1, r.2.2.2]
theorem hHei_cg (h : EQ4 fb gb nb) (h0 : 0 ≤ b) (h1 : b < nb) (hr s : Int) : hHei fb b hr s = hHei gb b hr s := by
  unfold hHei
  rw [hMea_cg h h0 h1, hWat_cg h h0 h1]
theorem hMos_cg (h : EQ4 fb gb nb) (h0 : 0 ≤ b) (h1 : b < nb) (hr v : Int) : hMos fb b hr v = hMos gb b hr v := by
  unfold hMos
  rw [hMea_cg h h0 h1, hWat_cg h h0 h1]
theorem hLst_cg (h : EQ4 fb gb nb) (h0 : 0 ≤ b) (h1 : b < nb) (hr v : Int) : hLst fb b hr v = hLst gb b hr v := by
  unfold hLst
  rw [hMea_cg h h0 h1, hWat_cg h h0 h1]
theorem hGre_cg (h : EQ4 fb gb nb) (h0 : 0 ≤ b) (h1 : b < nb) (hr v : Int) : hGre fb b hr v = hGre gb b hr v := by
  unfold hGre
  rw [hMea_cg h h0 h1, hWat_cg h h0 h1]
theorem hLea_cg (h : EQ4 fb gb nb) (h0 : 0 ≤ b) (h1 : b < nb) (hr v : Int) : hLea fb b hr v = hLea gb b hr v := by
  rw [hLea_eq, hLea_eq, hGre_cg h h0 h1, hLst_cg h h0 h1]
theorem caseS_cg (h : EQ4 ft gt n) (od S c : Int) : ∀ k : Nat, (k : Int) ≤ n → caseS ft od k S c = caseS gt od k S c := by
  intro k hk
  refine sumT_c k (fun j hj _ => ?_)
  have r := h.row (b := (j : Int)) (by omega) (by omega)
  unfold caseF
  rw [r.2.2.1]
theorem oddsN_cg (h : EQ4 ft gt n) (S : Int) : ∀ k : Nat, (k : Int) ≤ n → oddsN ft S k = oddsN gt S k := by
  intro k
  induction k with
  | zero => intro _; rfl
  | succ k ih =>
    intro hk
    have r := h.row (b := (k : Int)) (by omega) (by omega)
    have e1 := oddsN_s ft S (k := (k : Int)) (by omega)
    have e2 := oddsN_s gt S (k := (k : Int)) (by omega)
    rw [show ((k : Int) + 1).toNat = k + 1 by omega, show (k : Int).toNat = k by omega] at e1 e2
    rw [e1, e2, ih (by omega), r.2.2.2]
theorem caseS_0 {od S : Int} (hn : 0 ≤ n ∧ n ≤ 6) : caseS gt od n.toNat S 0 = sizeS gt n.toNat S := by
  have h := caseS_size (ft := gt) (od := od) (S := S) (c := 0) (by omega) n.toNat (by omega)
  rw [if_neg (by omega), if_neg (by omega)] at h
  omega
theorem hC_cg {od : Int} (hb : EQ4 fb gb nb) (ht : EQ4 ft gt n) (hn : 0 ≤ n) : ∀ t, VTt nb n t → hC fb ft od n t = hC gb gt od n t := by
  intro t hv
  funext c
  unfold hC
  rw [caseS_cg ht od (t % 64) c n.toNat (by omega), hHei_cg hb (by have := hv.1.1; omega) hv.2.1]
end ROWCG
section HCG
variable {vt : Int → Prop} {H K : Int → Int → Int}
theorem SPL_cg {t S : Int} (h : H t = K t) : SPL H t S ↔ SPL K t S := by unfold SPL; rw [h]
theorem PT_cg {t S c : Int} (h : H t = K t) : PT H t S c = PT K t S c := by unfold PT; rw [h]
theorem AL_cg (h : ∀ t, vt t → H t = K t) {c d : Int} : AL vt H c d ↔ AL vt K c d := by
  unfold AL
  exact ⟨fun g t ht => by rw [← h t ht]; exact g t ht, fun g t ht => by rw [h t ht]; exact g t ht⟩
theorem NL0_cg (h : ∀ t, vt t → H t = K t) {S : Int} : NL0 vt H S ↔ NL0 vt K S :=
  ⟨fun g c d hc hd => (AL_cg h).mp (g c d hc hd), fun g c d hc hd => (AL_cg h).mpr (g c d hc hd)⟩
theorem NL_mp (h : ∀ t, vt t → H t = K t) : ∀ (k : Nat) {S : Int}, NL vt H k S → NL vt K k S := by
  intro k
  induction k with
  | zero => intro S g; exact (NL0_cg h).mp g
  | succ k ih =>
    intro S g
    rcases g with g | ⟨t, g1, g2, g3⟩
    · exact Or.inl ((NL0_cg h).mp g)
    · exact Or.inr ⟨t, g1, (SPL_cg (h t g1)).mp g2, fun c hc => by rw [← PT_cg (h t g1)]; exact ih (g3 c hc)⟩
theorem NL_cg (h : ∀ t, vt t → H t = K t) {k : Nat} {S : Int} : NL vt H k S ↔ NL vt K k S := ⟨NL_mp h k, NL_mp (fun t ht => (h t ht).symm) k⟩
theorem ND_cg (h : ∀ t, vt t → H t = K t) {S v : Int} (g : ND vt H S v) : ND vt K S v := ⟨g.1, (NL_cg h).mp g.2.1, fun j h0 h1 z => g.2.2 j h0 h1 ((NL_cg h).mpr z)⟩
theorem GOODT_cg (h : ∀ t, vt t → H t = K t) {S v t : Int} (g : GOODT vt H S v t) : GOODT vt K S v t := ⟨g.1, (SPL_cg (h t g.1)).mp g.2.1, fun c hc => by rw [← PT_cg (h t g.1)]; exact (NL_cg h).mp (g.2.2 c hc)⟩
theorem FST_cg (h : ∀ t, vt t → H t = K t) {S v t : Int} (g : FST vt H S v t) : FST vt K S v t := ⟨GOODT_cg h g.1, fun t' h' z => g.2 t' h' (GOODT_cg (fun t ht => (h t ht).symm) z)⟩
theorem NEED_cg (h : ∀ t, vt t → H t = K t) {pr : Int → Bool} {S w u : Int} (g : NEED vt H pr S w u) : NEED vt K pr S w u := by
  refine ⟨g.1, fun q => ⟨(g.2 q).1, fun r => ?_⟩⟩
  obtain ⟨v, h1, h2, h3, h4⟩ := (g.2 q).2 r
  refine ⟨v, ND_cg h h1, h2, h3, fun a b => ?_⟩
  obtain ⟨t, h5, h6⟩ := h4 a b
  exact ⟨t, FST_cg h h5, h6⟩
theorem PTD_cg (h : ∀ t, vt t → H t = K t) {w a b : Int} : PTD vt H w a b ↔ PTD vt K w a b :=
  ⟨fun ⟨t, h1, h2, h3⟩ => ⟨t, h1, h2, by rw [← h t h1]; exact h3⟩, fun ⟨t, h1, h2, h3⟩ => ⟨t, h1, h2, by rw [h t h1]; exact h3⟩⟩
theorem AWAY_cg (h : ∀ t, vt t → H t = K t) {n u : Int} (g : AWAY vt H n u) : AWAY vt K n u := by
  have e : ∀ k, (∃ a b, (1 ≤ a ∧ a < b ∧ b ≤ n) ∧ PTD vt H 0 a b ∧ ¬ PTD vt H (p2 k) a b) ↔ (∃ a b, (1 ≤ a ∧ a < b ∧ b ≤ n) ∧ PTD vt K 0 a b ∧ ¬ PTD vt K (p2 k) a b) := fun k => by simp only [PTD_cg h]
  rcases g with ⟨g1, g2⟩ | ⟨g1, g2, g3⟩
  · exact Or.inl ⟨g1, fun k h0 h1 z => g2 k h0 h1 ((e k).mpr z)⟩
  · exact Or.inr ⟨g1, (e u).mp g2, fun k h0 h1 z => g3 k h0 h1 ((e k).mpr z)⟩
theorem alM_cq (h : ∀ t, vt t → H t = K t) (pr : Int → Bool) (c : Int) : alM vt H pr c = alM vt K pr c := by
  have e : alB vt H pr c = alB vt K pr c := by
    funext d
    have h1 : alB vt H pr c d = true ↔ alB vt K pr c d = true := by rw [alB_t, alB_t, AL_cg h]
    cases q : alB vt H pr c d <;> cases q2 : alB vt K pr c d <;> simp_all
  unfold alM
  rw [e]
end HCG
section ENDCG
variable {n c : Int} {U V Sm L Gm U' V' Sm' L' Gm' : Int → Int} {T : Int}
def ECG (n c : Int) (U V Sm L Gm U' V' Sm' L' Gm' : Int → Int) : Prop := (∀ k, 0 ≤ k → k < n → U k = U' k ∧ V k = V' k) ∧ ∀ m, 0 ≤ m → m < c → Sm m = Sm' m ∧ L m = L' m ∧ Gm m = Gm' m
theorem ECG.symm (h : ECG n c U V Sm L Gm U' V' Sm' L' Gm') : ECG n c U' V' Sm' L' Gm' U V Sm L Gm := ⟨fun k h0 h1 => ⟨(h.1 k h0 h1).1.symm, (h.1 k h0 h1).2.symm⟩, fun m h0 h1 => ⟨(h.2 m h0 h1).1.symm, (h.2 m h0 h1).2.1.symm, (h.2 m h0 h1).2.2.symm⟩⟩
theorem ECG.sta (h : ECG n c U V Sm L Gm U' V' Sm' L' Gm') {l u : Int → Int} (g : Sta n c U V Sm L Gm T l u) : Sta n c U' V' Sm' L' Gm' T l u := by
  refine ⟨fun k h0 h1 => ?_, fun m h0 h1 h2 => ?_⟩
  · rw [← (h.1 k h0 h1).1, ← (h.1 k h0 h1).2]; exact g.1 k h0 h1
  · obtain ⟨e1, e2, e3⟩ := h.2 m h0 h1
    have q := g.2 m h0 h1 h2
    unfold Okm Bad Cn at q ⊢
    rw [← e1, ← e2, ← e3]
    exact q
theorem ECG.cl (h : ECG n c U V Sm L Gm U' V' Sm' L' Gm') : Cl n c U V Sm L Gm T ↔ Cl n c U' V' Sm' L' Gm' T :=
  ⟨fun g ⟨l, u, z⟩ => g ⟨l, u, h.symm.sta z⟩, fun g ⟨l, u, z⟩ => g ⟨l, u, h.sta z⟩⟩
theorem ECG.enc (h : ECG n c U V Sm L Gm U' V' Sm' L' Gm') {l u : Int → Int} (g : Enc n c U V Sm L Gm T l u) : Enc n c U' V' Sm' L' Gm' T l u := fun l' u' z => g l' u' (h.symm.sta z)
theorem ECG.ends (h : ECG n c U V Sm L Gm U' V' Sm' L' Gm') {cl : Bool} {l u : Int → Int} (g : EndsOf n c U V Sm L Gm T cl l u) : EndsOf n c U' V' Sm' L' Gm' T cl l u := by
  rcases g with ⟨g1, g2, g3⟩ | ⟨g1, g2, g3⟩
  · exact Or.inl ⟨g1, h.cl.mp g2, fun k h0 h1 => by rw [← (h.1 k h0 h1).1, ← (h.1 k h0 h1).2]; exact g3 k h0 h1⟩
  · exact Or.inr ⟨g1, h.sta g2, h.enc g3⟩
theorem EndsOf.cl {cl : Bool} {l u : Int → Int} (g : EndsOf n c U V Sm L Gm T cl l u) : cl = true ↔ Cl n c U V Sm L Gm T := by
  rcases g with ⟨g1, g2, g3⟩ | ⟨g1, g2, g3⟩
  · exact ⟨fun _ => g2, fun _ => g1⟩
  · exact ⟨fun z => by rw [g1] at z; exact absurd z (by decide), fun z => absurd ⟨l, u, g2⟩ z⟩
/-- a house's ends and mornings by other rows -/
theorem ECG.rows {fb gb ft gt gm gm' : Int → Int} {nb : Int} (hb : EQ4 fb gb nb) (ht : EQ4 ft gt n) (hm : EQ4 gm gm' c) (hM : HM gm' c nb n) : ECG n c (fU ft) (fV ft) (mS gm) (mL fb gm) (mG fb gm) (fU gt) (fV gt) (mS gm') (mL gb gm') (mG gb gm') := by
  refine ⟨fun k h0 h1 => ?_, fun m h0 h1 => ?_⟩
  · have r := ht.row h0 h1
    exact ⟨r.1, r.2.1⟩
  · have r := hm.row h0 h1
    have q := hM m h0 h1
    unfold mS mL mG
    rw [r.1, r.2.1, r.2.2.1, r.2.2.2]
    exact ⟨rfl, hLst_cg hb q.1.1 q.1.2 _ _, hMos_cg hb q.1.1 q.1.2 _ _⟩
end ENDCG
/-! THE ANSWERS -/
def nBath (gb : Int → Int) (vb b w : Int) : Int := if ¬ (0 ≤ b ∧ b < vb) then -1000000001 else if 0 ≤ w ∧ w ≤ 3 then gb (b * 4 + w) else -1000000002
def nBather (gt el eu : Int → Int) (vn k w : Int) : Int := if ¬ (0 ≤ k ∧ k < vn) then -1000000001 else if ¬ (0 ≤ w ∧ w ≤ 5) then -1000000002 else if w < 4 then gt (k * 4 + w) else if w = 4 then el k else eu k
def aTold (w nb n od c bk L cl : Int) : Int := if w = 0 then nb else if w = 1 then n else if w = 2 then od else if w = 3 then c else if w = 4 then bk else if w = 5 then L else if w = 6 then cl else -1000000002
def aHeight (gb gt : Int → Int) (vb vn b h S : Int) : Int := if ¬ ((0 ≤ b ∧ b < vb) ∧ (0 ≤ S ∧ S < p2 vn)) then -1000000001 else if 0 ≤ h ∧ h < 100 then hHei gb b h (sizeS gt vn.toNat S) else -1000000002
def aSpan (gb : Int → Int) (vb b h v w : Int) : Int := if ¬ (0 ≤ b ∧ b < vb) then -1000000001 else if ¬ ((0 ≤ h ∧ h < 100) ∧ (0 ≤ v ∧ v < 100000) ∧ (0 ≤ w ∧ w ≤ 1)) then -1000000002 else if hMos gb b h v < 0 then -1 else if w = 0 then hLst gb b h v else hMos gb b h v
/-- a refusal of a row -/
def aRef (vb vn b h S v c M : Int) : Int := if ¬ ((0 ≤ b ∧ b < vb) ∧ (0 ≤ S ∧ S < p2 vn)) then -1000000001 else if ¬ ((0 ≤ h ∧ h < 100) ∧ (0 ≤ v ∧ v < 100000)) then -1000000002 else if c = M then -1000000004 else 0
def rwN (r c : Int) : Int := if r = 0 then c + 1 else c
def rwA (r c : Int) : Int := if r = 0 then c + 1 else r
def rwG (g : Int → Int) (r c b h S v : Int) : Int → Int := if r = 0 then up4 g (c * 4) b h S v else g
theorem aRef_0 {vb vn b h S v c M : Int} (hc : c ≤ M) : aRef vb vn b h S v c M = 0 ↔ ((0 ≤ b ∧ b < vb) ∧ (0 ≤ S ∧ S < p2 vn)) ∧ ((0 ≤ h ∧ h < 100) ∧ (0 ≤ v ∧ v < 100000)) ∧ c < M := by
  unfold aRef
  split
  · omega
  · split
    · omega
    · split <;> omega
def aStrike (c i : Int) : Int := if 0 ≤ i ∧ i < c then c - 1 else -1000000001
def stN (c i : Int) : Int := if 0 ≤ i ∧ i < c then c - 1 else c
def STG (g : Int → Int) (c i : Int) (u : Int → Int) : Prop := (0 ≤ i ∧ i < c → (∀ x, 0 ≤ x → x < i * 4 → u x = g x) ∧ ∀ x, i * 4 ≤ x → x < (c - 1) * 4 → u x = g (x + 4)) ∧ (¬ (0 ≤ i ∧ i < c) → u = g)
def aSeed (v s : Int) : Int := if v < 0 then -1000000002 else s
def sdN (v s : Int) : Int := if v < 0 then s else v
def aKeep (i : Int) : Int := if 0 ≤ i ∧ i ≤ 1 then 1 else -1000000001
def aGoBack (i k : Int) : Int := if ¬ (0 ≤ i ∧ i ≤ 1) then -1000000001 else if k = 0 then -1000000003 else 1
def aOdds (gt : Int → Int) (vn S : Int) : Int := if 0 ≤ S ∧ S < p2 vn then oddsN gt S vn.toNat else -1000000001
def aTells (gb gt : Int → Int) (vb vn vo b S c : Int) : Int := if ((0 ≤ b ∧ b < vb) ∧ (0 ≤ S ∧ S < p2 vn)) ∧ S ≠ 0 ∧ (c = 0 ∨ (0 ≤ c - 1 ∧ c - 1 < vn) ∨ (0 ≤ c - 7 ∧ c - 7 < vn)) then hHei gb b 0 (caseS gt vo vn.toNat S c) else -1000000001
noncomputable def aAlike (gb gt : Int → Int) (vb vn vo c : Int) : Int := if (c = 0 ∨ (0 ≤ c - 1 ∧ c - 1 < vn) ∨ (0 ≤ c - 7 ∧ c - 7 < vn)) then alM (VTt vb vn) (hC gb gt vo vn) (prB vn) c else -1000000001
/-- the i-th that can be in -/
def cbF (P : Int → Bool) (i : Int) : Nat → Int → Int → Int
  | 0, _, m => if i = -1 then m else -1
  | k + 1, S, m => if P S = true then (if m = i then S else cbF P i k (S + 1) (m + 1)) else cbF P i k (S + 1) m
theorem cbF_cg {P Q : Int → Bool} {i : Int} : ∀ (k : Nat) (S m : Int), (∀ x, S ≤ x → x < S + (k : Int) → P x = Q x) → cbF P i k S m = cbF Q i k S m := by
  intro k
  induction k with
  | zero => intro S m _; rfl
  | succ k ih =>
    intro S m h
    show (if P S = true then _ else _) = (if Q S = true then _ else _)
    rw [h S (by omega) (by omega), ih (S + 1) (m + 1) (fun x h0 h1 => h x (by omega) (by omega)), ih (S + 1) m (fun x h0 h1 => h x (by omega) (by omega))]
def cbP (gb el eu : Int → Int) (vn b h v : Int) : Int → Bool := fun S => decide (sumT el S vn.toNat ≤ hMos gb b h v ∧ hLst gb b h v ≤ sumT eu S vn.toNat)
def aCanBe (gb el eu : Int → Int) (vb vn b h v i : Int) : Int := if ¬ (0 ≤ b ∧ b < vb) then -1000000001 else if ¬ ((0 ≤ h ∧ h < 100) ∧ (0 ≤ v ∧ v < 100000)) then -1000000002 else cbF (cbP gb el eu vn b h v) i (p2 vn).toNat 0 0
def sumU (f : Int → Int) : Nat → Int
  | 0 => 0
  | k + 1 => sumU f k + f (k : Int)
theorem sumU_s (f : Int → Int) {k : Int} (h : 0 ≤ k) : sumU f (k + 1).toNat = sumU f k.toNat + f k := by
  rw [show (k + 1).toNat = k.toNat + 1 by omega]
  show sumU f k.toNat + f ((k.toNat : Nat) : Int) = _
  rw [show ((k.toNat : Nat) : Int) = k by omega]
theorem sumU_b {f : Int → Int} {B : Int} : ∀ k : Nat, (∀ j : Nat, j < k → 0 ≤ f (j : Int) ∧ f (j : Int) ≤ B) → 0 ≤ sumU f k ∧ sumU f k ≤ B * k := by
  intro k
  induction k with
  | zero => intro _; exact ⟨Int.le_refl _, by show (0 : Int) ≤ _; simp⟩
  | succ k ih =>
    intro h
    have h1 := ih (fun j hj => h j (by omega))
    have h2 := h k (by omega)
    show 0 ≤ sumU f k + f (k : Int) ∧ sumU f k + f (k : Int) ≤ _
    rw [show ((k + 1 : Nat) : Int) = (k : Int) + 1 by omega, Int.mul_add, Int.mul_one]
    omega
def lkA (gb gt el eu : Int → Int) (vn b h v : Int) : Int → Int := fun S => if cbP gb el eu vn b h v S = true then oddsN gt S vn.toNat else 0
def lkW (gb gt el eu : Int → Int) (vn b h v k : Int) : Int → Int := fun S => if cbP gb el eu vn b h v S = true ∧ tb S k = true then oddsN gt S vn.toNat else 0
def lkV (x y : Int) : Int := if y = 0 then 0 else x * 1000000 / y
def aLikely (gb gt el eu : Int → Int) (vb vn b h v k : Int) : Int := if ¬ ((0 ≤ b ∧ b < vb) ∧ (0 ≤ k ∧ k < vn)) then -1000000001 else if ¬ ((0 ≤ h ∧ h < 100) ∧ (0 ≤ v ∧ v < 100000)) then -1000000002 else lkV (sumU (lkW gb gt el eu vn b h v k) (p2 vn).toNat) (sumU (lkA gb gt el eu vn b h v) (p2 vn).toNat)
/-- those called in: how many, the widest -/
def clB (gb : Int → Int) (vb : Int) : Int := if 1 < vb ∧ hMea gb 1 < hMea gb 0 then 1 else 0
def clH (gb gt : Int → Int) (vb k : Int) : Int := hHei gb (clB gb vb) 0 (gt (k * 4 + 2))
def clW (gb gt el eu : Int → Int) (vb g k : Int) : Int := if g < eu k - el k then min (eu k) (hMos gb (clB gb vb) 0 (clH gb gt vb k)) - max (el k) (hLst gb (clB gb vb) 0 (clH gb gt vb k)) else eu k - el k
def clN (el eu : Int → Int) (g : Int) : Nat → Int
  | 0 => 0
  | k + 1 => clN el eu g k + (if g < eu (k : Int) - el (k : Int) then 1 else 0)
def clM (gb gt el eu : Int → Int) (vb g : Int) : Nat → Int
  | 0 => 0
  | k + 1 => max (clM gb gt el eu vb g k) (clW gb gt el eu vb g (k : Int))
theorem clN_s (el eu : Int → Int) (g : Int) {k : Int} (h : 0 ≤ k) : clN el eu g (k + 1).toNat = clN el eu g k.toNat + (if g < eu k - el k then 1 else 0) := by
  obtain ⟨j, rfl⟩ := Int.eq_ofNat_of_zero_le h
  rw [show ((j : Int) + 1).toNat = j + 1 by omega]
  rfl
theorem clM_s (gb gt el eu : Int → Int) (vb g : Int) {k : Int} (h : 0 ≤ k) : clM gb gt el eu vb g (k + 1).toNat = max (clM gb gt el eu vb g k.toNat) (clW gb gt el eu vb g k) := by
  obtain ⟨j, rfl⟩ := Int.eq_ofNat_of_zero_le h
  rw [show ((j : Int) + 1).toNat = j + 1 by omega]
  rfl
def aCalled (gb gt el eu : Int → Int) (vb vn g w : Int) : Int := if ¬ ((0 ≤ g ∧ g ≤ 999) ∧ (0 ≤ w ∧ w ≤ 1)) then -1000000002 else if vb = 0 then -1000000003 else if w = 0 then clN el eu g vn.toNat else clM gb gt el eu vb g vn.toNat
/-- draws -/
def dr (s : Int) : Int := (s * 1103515245 + 12345) % 2147483648
def drV (s n : Int) : Int := dr s / 65536 % n
theorem dr_b (s : Int) : 0 ≤ dr s ∧ dr s < 2147483648 := ⟨Int.emod_nonneg _ (by decide), Int.emod_lt_of_pos _ (by decide)⟩
def dsS (gt : Int → Int) (s : Int) : Nat → Int × Int
  | 0 => (s, 0)
  | k + 1 => (dr (dsS gt s k).1, (dsS gt s k).2 + (if drV (dsS gt s k).1 100 < gt ((k : Int) * 4 + 3) then p2 (k : Int) else 0))
theorem dsS_s (gt : Int → Int) (s : Int) {k : Int} (h : 0 ≤ k) : dsS gt s (k + 1).toNat = (dr (dsS gt s k.toNat).1, (dsS gt s k.toNat).2 + (if drV (dsS gt s k.toNat).1 100 < gt (k * 4 + 3) then p2 k else 0)) := by
  obtain ⟨j, rfl⟩ := Int.eq_ofNat_of_zero_le h
  rw [show ((j : Int) + 1).toNat = j + 1 by omega]
  rfl
theorem p2_sn (k : Nat) : p2 (((k + 1 : Nat)) : Int) = 2 * p2 (k : Int) := by
  unfold p2
  rw [show (((k + 1 : Nat)) : Int).toNat = k + 1 by omega, show ((k : Int)).toNat = k by omega, Nat.pow_succ]
  omega
theorem dsS_b {gt : Int → Int} {s : Int} (hs : 0 ≤ s ∧ s < 2147483648) : ∀ k : Nat, (0 ≤ (dsS gt s k).1 ∧ (dsS gt s k).1 < 2147483648) ∧ (0 ≤ (dsS gt s k).2 ∧ (dsS gt s k).2 < p2 (k : Int)) := by
  intro k
  induction k with
  | zero => exact ⟨hs, by show (0 : Int) ≤ 0; omega, by show (0 : Int) < _; decide⟩
  | succ k ih =>
    refine ⟨dr_b _, ?_⟩
    have e := p2_sn k
    show 0 ≤ (dsS gt s k).2 + (if _ then p2 (k : Int) else 0) ∧ (dsS gt s k).2 + (if _ then p2 (k : Int) else 0) < _
    rw [e]
    split <;> omega
theorem dsS_cg {ft gt : Int → Int} {n s : Int} (h : EQ4 ft gt n) : ∀ k : Nat, (k : Int) ≤ n → dsS ft s k = dsS gt s k := by
  intro k
  induction k with
  | zero => intro _; rfl
  | succ k ih =>
    intro hk
    have r := h.row (b := (k : Int)) (by omega) (by omega)
    show (_, _) = (_, _)
    rw [ih (by omega), r.2.2.2]
/-- one drawn morning -/
def dmS (gb gt : Int → Int) (vn b : Int) (q : Int × Int × (Int → Int)) : Int × Int × (Int → Int) :=
  if q.2.1 < 12 then (dr (dsS gt q.1 vn.toNat).1, q.2.1 + 1, up4 q.2.2 (q.2.1 * 4) b (drV (dsS gt q.1 vn.toNat).1 4) (dsS gt q.1 vn.toNat).2 (hHei gb b (drV (dsS gt q.1 vn.toNat).1 4) (sizeS gt vn.toNat (dsS gt q.1 vn.toNat).2))) else (dr (dsS gt q.1 vn.toNat).1, q.2.1, q.2.2)
def dmN (gb gt : Int → Int) (vn b : Int) (q : Int × Int × (Int → Int)) : Nat → Int × Int × (Int → Int)
  | 0 => q
  | k + 1 => dmS gb gt vn b (dmN gb gt vn b q k)
theorem dmN_s (gb gt : Int → Int) (vn b : Int) (q : Int × Int × (Int → Int)) {k : Int} (h : 0 ≤ k) : dmN gb gt vn b q (k + 1).toNat = dmS gb gt vn b (dmN gb gt vn b q k.toNat) := by
  obtain ⟨j, rfl⟩ := Int.eq_ofNat_of_zero_le h
  rw [show ((j : Int) + 1).toNat = j + 1 by omega]
  rfl
def dfQ (gb gt gm : Int → Int) (vb vn vm vs b n : Int) : Int × Int × (Int → Int) := if (0 ≤ b ∧ b < vb) ∧ (1 ≤ n ∧ n ≤ 30) then dmN gb gt vn b (vs, vm, gm) n.toNat else (vs, vm, gm)
def aDrift (gb gt gm : Int → Int) (vb vn vm vs b n : Int) : Int := if ¬ (0 ≤ b ∧ b < vb) then -1000000001 else if ¬ (1 ≤ n ∧ n ≤ 30) then -1000000002 else (dmN gb gt vn b (vs, vm, gm) n.toNat).2.1
/-- the first that is wrong -/
def JUD (P : Int → Prop) (c u : Int) : Prop := (u = -1 ∧ ∀ k, 0 ≤ k → k < c → ¬ P k) ∨ ((0 ≤ u ∧ u < c) ∧ P u ∧ ∀ k, 0 ≤ k → k < u → ¬ P k)
theorem JUD.one {P : Int → Prop} {c u u' : Int} (h : JUD P c u) (h' : JUD P c u') : u = u' := by
  rcases h with ⟨h1, h2⟩ | ⟨h1, h2, h3⟩ <;> rcases h' with ⟨g1, g2⟩ | ⟨g1, g2, g3⟩
  · omega
  · exact absurd g2 (h2 _ g1.1 g1.2)
  · exact absurd h2 (g2 _ h1.1 h1.2)
  · rcases (by omega : u < u' ∨ u = u' ∨ u' < u) with q | q | q
    · exact absurd h2 (g3 _ h1.1 q)
    · exact q
    · exact absurd g2 (h3 _ g1.1 q)
def juP (gb gt g : Int → Int) (vn : Int) : Int → Prop := fun k => hHei gb (g (k * 4 + 0)) (g (k * 4 + 1)) (sizeS gt vn.toNat (g (k * 4 + 2))) ≠ g (k * 4 + 3)
/-- a byte of a long -/
def byt (x k : Int) : Int := x / ((2 ^ (8 * k).toNat : Nat) : Int) % 256
/-- the text behind n bytes more, k of them still to come -/
def txF (x n t : Int) (g : Int → Int) : Int → Int := fun j => if t ≤ j ∧ j < t + n then byt x (t + n - 1 - j) else g j
def aFeed (n t : Int) : Int := if ¬ (1 ≤ n ∧ n ≤ 8) then -1000000002 else if 400 < t + n then -1000000004 else t + n
def fdN (n t : Int) : Int := if (1 ≤ n ∧ n ≤ 8) ∧ t + n ≤ 400 then t + n else t
def fdG (x n t : Int) (g : Int → Int) : Int → Int := if (1 ≤ n ∧ n ≤ 8) ∧ t + n ≤ 400 then txF x n t g else g
theorem byt_b (x k : Int) : 0 ≤ byt x k ∧ byt x k < 256 := ⟨Int.emod_nonneg _ (by decide), Int.emod_lt_of_pos _ (by decide)⟩
