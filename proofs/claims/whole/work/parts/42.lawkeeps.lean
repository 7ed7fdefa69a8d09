/-! THE LAW'S INVARIANT, and what keeps it -/
def IT (vt pn : Int) (gx wT : Int → Int) : Prop := (0 ≤ vt ∧ vt ≤ 400) ∧ (∀ i, 0 ≤ i → i < vt → (0 ≤ gx i ∧ gx i < 256) ∧ wT i % 256 = gx i) ∧ (∀ i, -128 ≤ wT i ∧ wT i < 128) ∧ (0 ≤ pn ∧ pn ≤ 401)
def IH (vb vn vo : Int) (fb ft gb gt : Int → Int) : Prop := (0 ≤ vn ∧ vn ≤ 6) ∧ (0 ≤ vb ∧ vb ≤ 2) ∧ (0 ≤ vo ∧ vo ≤ 999) ∧ HB fb ∧ HT ft ∧ HV gb vb ∧ HVT gt vn ∧ EQ4 fb gb vb ∧ EQ4 ft gt vn
def I2 (fb2 ft2 : Int → Int) : Prop := HB fb2 ∧ HT ft2
def IR (c M vb vn : Int) (gC g : Int → Int) : Prop := (0 ≤ c ∧ c ≤ M) ∧ HM g c vb vn ∧ EQ4 gC g c
def IJ (j vb vn : Int) (k : Bool) (d c : Int) (g gi gz : Int → Int) : Prop := gz j = pI (k = true) ∧ (k = true → (0 ≤ c ∧ c ≤ 12) ∧ HM g c vb vn ∧ gi (50 * j + 48) = c ∧ gi (50 * j + 49) = d ∧ (0 ≤ d ∧ d < 2147483648) ∧ EQ4 g (fun x => gi (50 * j + x)) c)
def II (vb vn : Int) (k0 k1 : Bool) (d0 c0 d1 c1 : Int) (g0 g1 gi gz : Int → Int) : Prop := (∀ j, 0 ≤ j → j ≤ 1 → gz j = 0 ∨ gz j = 1) ∧ IJ 0 vb vn k0 d0 c0 g0 gi gz ∧ IJ 1 vb vn k1 d1 c1 g1 gi gz
def sgn (vt : Int) (gx : Int → Int) : Int → Int := fun i => if 0 ≤ i ∧ i < vt then gx i else -1
theorem IT.txt {vt pn : Int} {gx wT : Int → Int} (h : IT vt pn gx wT) : TXT (sgn vt gx) vt := by
  refine ⟨h.1, fun i h0 h1 => ?_, fun i hi => if_neg hi⟩
  have e : sgn vt gx i = gx i := if_pos ⟨h0, h1⟩
  rw [e]
  exact (h.2.1 i h0 h1).1
theorem IT.sx {vt pn : Int} {gx wT : Int → Int} (_ : IT vt pn gx wT) : ∀ i, 0 ≤ i → i < vt → sgn vt gx i = gx i := fun i h0 h1 => if_pos ⟨h0, h1⟩
theorem IT.sw {vt pn : Int} {gx wT : Int → Int} (h : IT vt pn gx wT) : ∀ i, 0 ≤ i → i < vt → sgn vt gx i = wT i % 256 := fun i h0 h1 => by rw [h.sx i h0 h1]; exact (h.2.1 i h0 h1).2.symm
theorem IT.feed {vt pn n y : Int} {gx wT u : Int → Int} (h : IT vt pn gx wT) (hu : TKF y n vt wT u) : IT (fdN n vt) pn (fdG y n vt gx) u := by
  by_cases q : (1 ≤ n ∧ n ≤ 8) ∧ vt + n ≤ 400
  · have e1 : fdN n vt = vt + n := if_pos q
    have e2 : fdG y n vt gx = txF y n vt gx := if_pos q
    have hu1 := hu.1 q
    rw [e1, e2]
    refine ⟨by have := h.1; omega, fun i h0 h1 => ?_, fun i => ?_, h.2.2.2⟩
    · by_cases z : vt ≤ i ∧ i < vt + n
      · have e3 : txF y n vt gx i = byt y (vt + n - 1 - i) := if_pos z
        rw [e3]
        exact ⟨byt_b _ _, ((hu1 i).1 z).1⟩
      · have e3 : txF y n vt gx i = gx i := if_neg z
        rw [e3, (hu1 i).2 z]
        exact h.2.1 i h0 (by omega)
    · by_cases z : vt ≤ i ∧ i < vt + n
      · exact ((hu1 i).1 z).2
      · rw [(hu1 i).2 z]
        exact h.2.2.1 i
  · have e1 : fdN n vt = vt := if_neg q
    have e2 : fdG y n vt gx = gx := if_neg q
    rw [e1, e2, hu.2 q]
    exact h
theorem IT.zero {pn : Int} {gx wT : Int → Int} (h : ∀ i, -128 ≤ wT i ∧ wT i < 128) (hp : 0 ≤ pn ∧ pn ≤ 401) : IT 0 pn gx wT := ⟨⟨by omega, by omega⟩, fun i h0 h1 => by omega, h, hp⟩
section IHS
variable {vb vn vo : Int} {fb ft gb gt : Int → Int}
theorem IH.hvc (h : IH vb vn vo fb ft gb gt) : HV fb vb := h.2.2.2.2.2.1.cg h.2.2.2.2.2.2.2.1
theorem IH.hvtc (h : IH vb vn vo fb ft gb gt) : HVT ft vn := h.2.2.2.2.2.2.1.cg h.2.2.2.2.2.2.2.2
theorem IH.hH (h : IH vb vn vo fb ft gb gt) : ∀ t, VTt vb vn t → hC fb ft vo vn t = hC gb gt vo vn t := hC_cg h.2.2.2.2.2.2.2.1 h.2.2.2.2.2.2.2.2 h.1.1
theorem IH.ecg {vm : Int} {gmC gm : Int → Int} (h : IH vb vn vo fb ft gb gt) (hM : IR vm 12 vb vn gmC gm) : ECG vn vm (fU ft) (fV ft) (mS gmC) (mL fb gmC) (mG fb gmC) (fU gt) (fV gt) (mS gm) (mL gb gm) (mG gb gm) := ECG.rows h.2.2.2.2.2.2.2.1 h.2.2.2.2.2.2.2.2 hM.2.2 hM.2.1
theorem IH.ends {vm : Int} {gmC gm el eu : Int → Int} {ecl : Bool} (h : IH vb vn vo fb ft gb gt) (hM : IR vm 12 vb vn gmC gm) (hL : LRN vn vm fb ft gmC ecl el eu) : EndsOf vn vm (fU gt) (fV gt) (mS gm) (mL gb gm) (mG gb gm) (p2 vm - 1) ecl el eu := (h.ecg hM).ends hL.1
end IHS
theorem IR.hmc {c M vb vn : Int} {gC g : Int → Int} (h : IR c M vb vn gC g) : HM gC c vb vn := h.2.1.cg h.2.2
/-! the answers are alike -/
theorem iteN {α : Type} {P : Prop} [Decidable P] {a b b' : α} (h : P → b = b') : (if ¬ P then a else b) = if ¬ P then a else b' := by
  by_cases q : P
  · rw [if_neg (fun z => z q), if_neg (fun z => z q), h q]
  · rw [if_pos q, if_pos q]
theorem iteP {α : Type} {P : Prop} [Decidable P] {a a' b : α} (h : P → a = a') : (if P then a else b) = if P then a' else b := by
  by_cases q : P
  · rw [if_pos q, if_pos q, h q]
  · rw [if_neg q, if_neg q]
theorem iteE {α : Type} {P : Prop} [Decidable P] {a b b' : α} (h : ¬ P → b = b') : (if P then a else b) = if P then a else b' := by
  by_cases q : P
  · rw [if_pos q, if_pos q]
  · rw [if_neg q, if_neg q, h q]
section ANS
variable {vb vn vo : Int} {fb ft gb gt el eu : Int → Int}
theorem nBath_cg (h : IH vb vn vo fb ft gb gt) (b w : Int) : nBath fb vb b w = nBath gb vb b w := by
  unfold nBath
  exact iteN (fun q => iteP (fun r => h.2.2.2.2.2.2.2.1 _ (by omega) (by omega)))
theorem nBather_cg (h : IH vb vn vo fb ft gb gt) (k w : Int) : nBather ft el eu vn k w = nBather gt el eu vn k w := by
  unfold nBather
  exact iteN (fun q => iteN (fun r => iteP (fun t => h.2.2.2.2.2.2.2.2 _ (by omega) (by omega))))
theorem sizeS_cg (h : IH vb vn vo fb ft gb gt) (S : Int) : sizeS ft vn.toNat S = sizeS gt vn.toNat S := by
  rw [← caseS_0 (od := 0) h.1, ← caseS_0 (od := 0) h.1]
  exact caseS_cg h.2.2.2.2.2.2.2.2 0 S 0 vn.toNat (by have := h.1; omega)
theorem aHeight_cg (h : IH vb vn vo fb ft gb gt) (b hr S : Int) : aHeight fb ft vb vn b hr S = aHeight gb gt vb vn b hr S := by
  unfold aHeight
  exact iteN (fun q => by rw [sizeS_cg h, hHei_cg h.2.2.2.2.2.2.2.1 q.1.1 q.1.2])
theorem aSpan_cg (h : IH vb vn vo fb ft gb gt) (b hr v w : Int) : aSpan fb vb b hr v w = aSpan gb vb b hr v w := by
  unfold aSpan
  exact iteN (fun q => by rw [hMos_cg h.2.2.2.2.2.2.2.1 q.1 q.2, hLst_cg h.2.2.2.2.2.2.2.1 q.1 q.2])
theorem oddsN_cgh (h : IH vb vn vo fb ft gb gt) (S : Int) : oddsN ft S vn.toNat = oddsN gt S vn.toNat := oddsN_cg h.2.2.2.2.2.2.2.2 S vn.toNat (by have := h.1; omega)
theorem aOdds_cg (h : IH vb vn vo fb ft gb gt) (S : Int) : aOdds ft vn S = aOdds gt vn S := by
  unfold aOdds
  rw [oddsN_cgh h]
theorem aTells_cg (h : IH vb vn vo fb ft gb gt) (b S c : Int) : aTells fb ft vb vn vo b S c = aTells gb gt vb vn vo b S c := by
  unfold aTells
  exact iteP (fun q => by rw [caseS_cg h.2.2.2.2.2.2.2.2 vo S c vn.toNat (by have := h.1; omega), hHei_cg h.2.2.2.2.2.2.2.1 q.1.1.1 q.1.1.2])
theorem aAlike_cg (h : IH vb vn vo fb ft gb gt) (c : Int) : aAlike fb ft vb vn vo c = aAlike gb gt vb vn vo c := by
  unfold aAlike
  rw [alM_cq h.hH]
theorem cbP_cgh (h : IH vb vn vo fb ft gb gt) {b : Int} (h0 : 0 ≤ b) (h1 : b < vb) (hr v : Int) : cbP fb el eu vn b hr v = cbP gb el eu vn b hr v := by
  unfold cbP
  rw [hMos_cg h.2.2.2.2.2.2.2.1 h0 h1, hLst_cg h.2.2.2.2.2.2.2.1 h0 h1]
theorem aCanBe_cg (h : IH vb vn vo fb ft gb gt) (b hr v i : Int) : aCanBe fb el eu vb vn b hr v i = aCanBe gb el eu vb vn b hr v i := by
  unfold aCanBe
  exact iteN (fun q => by rw [cbP_cgh h q.1 q.2])
theorem aLikely_cg (h : IH vb vn vo fb ft gb gt) (b hr v k : Int) : aLikely fb ft el eu vb vn b hr v k = aLikely gb gt el eu vb vn b hr v k := by
  unfold aLikely
  refine iteN (fun q => ?_)
  have e1 : lkA fb ft el eu vn b hr v = lkA gb gt el eu vn b hr v := by
    funext S
    unfold lkA
    rw [cbP_cgh h q.1.1 q.1.2, oddsN_cgh h]
  have e2 : lkW fb ft el eu vn b hr v k = lkW gb gt el eu vn b hr v k := by
    funext S
    unfold lkW
    rw [cbP_cgh h q.1.1 q.1.2, oddsN_cgh h]
  rw [e1, e2]
theorem aCalled_cg (h : IH vb vn vo fb ft gb gt) (g w : Int) : aCalled fb ft el eu vb vn g w = aCalled gb gt el eu vb vn g w := by
  unfold aCalled
  refine iteN (fun q => iteE (fun r => ?_))
  have hnb := h.2.1
  have eb : clB fb vb = clB gb vb := by
    unfold clB
    by_cases z : 1 < vb
    · rw [hMea_cg h.2.2.2.2.2.2.2.1 (b := 1) (by omega) z, hMea_cg h.2.2.2.2.2.2.2.1 (b := 0) (by omega) (by omega)]
    · rw [if_neg (fun y => z y.1), if_neg (fun y => z y.1)]
  have hbb : 0 ≤ clB gb vb ∧ clB gb vb < vb := by
    unfold clB
    split <;> omega
  have key : ∀ k : Nat, (k : Int) ≤ vn → clM fb ft el eu vb g k = clM gb gt el eu vb g k := by
    intro k
    induction k with
    | zero => intro _; rfl
    | succ k ih =>
      intro hk
      have rr := h.2.2.2.2.2.2.2.2.row (b := (k : Int)) (by omega) (by omega)
      show max _ _ = max _ _
      have e1 : clW fb ft el eu vb g (k : Int) = clW gb gt el eu vb g (k : Int) := by
        unfold clW clH
        rw [eb, hHei_cg h.2.2.2.2.2.2.2.1 hbb.1 hbb.2, hMos_cg h.2.2.2.2.2.2.2.1 hbb.1 hbb.2, hLst_cg h.2.2.2.2.2.2.2.1 hbb.1 hbb.2, rr.2.2.1]
      rw [ih (by omega), e1]
  rw [key vn.toNat (by have := h.1; omega)]
end ANS
theorem IsF_cg {c : Int} {P Q : Int → Prop} {s : Int} (h : ∀ t, P t ↔ Q t) (g : IsF c P s) : IsF c Q s := ⟨g.1, fun z => g.2.1 ((h s).mpr z), fun t h0 h1 h2 => g.2.2 t h0 h1 (fun z => h2 ((h t).mp z))⟩
theorem JUD_cg {P Q : Int → Prop} {c u : Int} (h : ∀ k, 0 ≤ k → k < c → (P k ↔ Q k)) (g : JUD P c u) : JUD Q c u := by
  rcases g with ⟨h1, h2⟩ | ⟨h1, h2, h3⟩
  · exact Or.inl ⟨h1, fun k h0 h1 z => h2 k h0 h1 ((h k h0 h1).mpr z)⟩
  · exact Or.inr ⟨h1, (h u h1.1 h1.2).mp h2, fun k h0 h4 z => h3 k h0 h4 ((h k h0 (by omega)).mpr z)⟩
theorem juP_cg {vb vn vo vbk : Int} {fb ft gb gt geC gbk : Int → Int} (h : IH vb vn vo fb ft gb gt) (hB : IR vbk 30 vb vn geC gbk) : ∀ k, 0 ≤ k → k < vbk → (juP fb ft geC vn k ↔ juP gb gt gbk vn k) := by
  intro k h0 h1
  have r := hB.2.2.row h0 h1
  have q := hB.2.1 k h0 h1
  unfold juP
  rw [r.1, r.2.1, r.2.2.1, r.2.2.2, sizeS_cg h, hHei_cg h.2.2.2.2.2.2.2.1 q.1.1 q.1.2]
/-! rows of mornings, of the book -/
theorem up4_e (g : Int → Int) (i a b s v : Int) : up4 g i a b s v = upZ (upZ (upZ (upZ g i a) (i + 1) b) (i + 2) s) (i + 3) v := rfl
theorem EQ4.up4 {f g : Int → Int} {c a b s v : Int} (h : EQ4 f g c) : EQ4 (up4 f (c * 4) a b s v) (up4 g (c * 4) a b s v) (c + 1) := by
  intro x h0 h1
  rw [up4_e, up4_e]
  by_cases e3 : x = c * 4 + 3
  · rw [e3, upZ_s, upZ_s]
  · rw [upZ_n e3, upZ_n e3]
    by_cases e2 : x = c * 4 + 2
    · rw [e2, upZ_s, upZ_s]
    · rw [upZ_n e2, upZ_n e2]
      by_cases e1 : x = c * 4 + 1
      · rw [e1, upZ_s, upZ_s]
      · rw [upZ_n e1, upZ_n e1]
        by_cases e0 : x = c * 4
        · rw [e0, upZ_s, upZ_s]
        · rw [upZ_n e0, upZ_n e0]
          exact h x h0 (by omega)
theorem IR.row {c M vb vn : Int} {gC g : Int → Int} (h : IR c M vb vn gC g) (b hr S v : Int) : IR (rwN (aRef vb vn b hr S v c M) c) M vb vn (rwG gC (aRef vb vn b hr S v c M) c b hr S v) (rwG g (aRef vb vn b hr S v c M) c b hr S v) := by
  refine ⟨?_, HM.rwG h.2.1 h.1.1 h.1.2, ?_⟩
  · by_cases r : aRef vb vn b hr S v c M = 0
    · have q := (aRef_0 h.1.2).mp r
      rw [rwN_0 r]
      have := h.1
      omega
    · rw [rwN_n r]; exact h.1
  · by_cases r : aRef vb vn b hr S v c M = 0
    · rw [rwN_0 r, rwG_0 r, rwG_0 r]
      exact h.2.2.up4
    · rw [rwN_n r, rwG_n r, rwG_n r]
      exact h.2.2
theorem IR.strike {c vb vn i : Int} {gC g uC u : Int → Int} (h : IR c 12 vb vn gC g) (hC : STG gC c i uC) (hM : STG g c i u) : IR (stN c i) 12 vb vn uC u := by
  refine ⟨?_, hM.hm h.2.1, ?_⟩
  · unfold stN
    have := h.1
    split <;> omega
  · by_cases q : 0 ≤ i ∧ i < c
    · rw [stN_0 q]
      obtain ⟨a1, a2⟩ := hC.1 q
      obtain ⟨b1, b2⟩ := hM.1 q
      intro x h0 h1
      rcases (by omega : x < i * 4 ∨ i * 4 ≤ x) with w | w
      · rw [a1 x h0 w, b1 x h0 w]; exact h.2.2 x h0 (by omega)
      · rw [a2 x w h1, b2 x w h1]; exact h.2.2 (x + 4) (by omega) (by omega)
    · rw [stN_n q, hC.2 q, hM.2 q]
      exact h.2.2
theorem IR.none {M vb vn : Int} {gC g : Int → Int} (h : 0 ≤ M) : IR 0 M vb vn gC g := ⟨⟨by omega, h⟩, fun m h0 h1 => by omega, fun x h0 h1 => by omega⟩
/-! draws -/
theorem dmN_cg {vb vn vo vs vm b : Int} {fb ft gb gt gmC gm : Int → Int} (h : IH vb vn vo fb ft gb gt) (hb : 0 ≤ b ∧ b < vb) (hM : EQ4 gmC gm vm) : ∀ k : Nat, (dmN fb ft vn b (vs, vm, gmC) k).1 = (dmN gb gt vn b (vs, vm, gm) k).1 ∧ (dmN fb ft vn b (vs, vm, gmC) k).2.1 = (dmN gb gt vn b (vs, vm, gm) k).2.1 ∧ EQ4 (dmN fb ft vn b (vs, vm, gmC) k).2.2 (dmN gb gt vn b (vs, vm, gm) k).2.2 (dmN gb gt vn b (vs, vm, gm) k).2.1 := by
  intro k
  induction k with
  | zero => exact ⟨rfl, rfl, hM⟩
  | succ k ih =>
    show (dmS fb ft vn b (dmN fb ft vn b (vs, vm, gmC) k)).1 = (dmS gb gt vn b (dmN gb gt vn b (vs, vm, gm) k)).1 ∧ (dmS fb ft vn b (dmN fb ft vn b (vs, vm, gmC) k)).2.1 = (dmS gb gt vn b (dmN gb gt vn b (vs, vm, gm) k)).2.1 ∧ EQ4 (dmS fb ft vn b (dmN fb ft vn b (vs, vm, gmC) k)).2.2 (dmS gb gt vn b (dmN gb gt vn b (vs, vm, gm) k)).2.2 (dmS gb gt vn b (dmN gb gt vn b (vs, vm, gm) k)).2.1
    generalize dmN fb ft vn b (vs, vm, gmC) k = q at ih ⊢
    generalize dmN gb gt vn b (vs, vm, gm) k = r at ih ⊢
    obtain ⟨q1, q2, q3⟩ := q
    obtain ⟨r1, r2, r3⟩ := r
    obtain ⟨e1, e2, e3⟩ := ih
    have e1 : q1 = r1 := e1
    have e2 : q2 = r2 := e2
    have e3 : EQ4 q3 r3 r2 := e3
    subst e1 e2
    have ed : dsS ft q1 vn.toNat = dsS gt q1 vn.toNat := dsS_cg h.2.2.2.2.2.2.2.2 vn.toNat (by have := h.1; omega)
    unfold dmS
    by_cases z : q2 < 12
    · rw [if_pos (show (q1, q2, q3).2.1 < 12 from z), if_pos (show (q1, q2, r3).2.1 < 12 from z), ed, sizeS_cg h, hHei_cg h.2.2.2.2.2.2.2.1 hb.1 hb.2]
      exact ⟨rfl, rfl, e3.up4⟩
    · rw [if_neg (show ¬ (q1, q2, q3).2.1 < 12 from z), if_neg (show ¬ (q1, q2, r3).2.1 < 12 from z), ed]
      exact ⟨rfl, rfl, e3⟩
theorem dfQ_cg {vb vn vo vs vm b n : Int} {fb ft gb gt gmC gm : Int → Int} (h : IH vb vn vo fb ft gb gt) (hM : IR vm 12 vb vn gmC gm) (hs : 0 ≤ vs ∧ vs < 2147483648) :
    (dfQ fb ft gmC vb vn vm vs b n).1 = (dfQ gb gt gm vb vn vm vs b n).1 ∧ (dfQ fb ft gmC vb vn vm vs b n).2.1 = (dfQ gb gt gm vb vn vm vs b n).2.1 ∧ IR (dfQ gb gt gm vb vn vm vs b n).2.1 12 vb vn (dfQ fb ft gmC vb vn vm vs b n).2.2 (dfQ gb gt gm vb vn vm vs b n).2.2 ∧ (0 ≤ (dfQ gb gt gm vb vn vm vs b n).1 ∧ (dfQ gb gt gm vb vn vm vs b n).1 < 2147483648) ∧ aDrift fb ft gmC vb vn vm vs b n = aDrift gb gt gm vb vn vm vs b n := by
  unfold dfQ aDrift
  by_cases q : (0 ≤ b ∧ b < vb) ∧ (1 ≤ n ∧ n ≤ 30)
  · rw [if_pos q, if_pos q, if_neg (show ¬ ¬ (0 ≤ b ∧ b < vb) from fun z => z q.1), if_neg (show ¬ ¬ (0 ≤ b ∧ b < vb) from fun z => z q.1), if_neg (show ¬ ¬ (1 ≤ n ∧ n ≤ 30) from fun z => z q.2), if_neg (show ¬ ¬ (1 ≤ n ∧ n ≤ 30) from fun z => z q.2)]
    have c := dmN_cg (vs := vs) h q.1 hM.2.2 n.toNat
    have bb := dmN_b (gb := gb) (gt := gt) (vn := vn) (b := b) (q := (vs, vm, gm)) hs hM.1 n.toNat
    exact ⟨c.1, c.2.1, ⟨bb.2, HM.dmn h.2.2.2.2.2.1 h.2.2.2.2.2.2.1 h.1 q.1 hs hM.1 hM.2.1 n.toNat, c.2.2⟩, bb.1, c.2.1⟩
  · rw [if_neg q, if_neg q]
    refine ⟨rfl, rfl, hM, hs, ?_⟩
    exact iteN (fun z => by rw [if_pos (fun y => q ⟨z, y⟩), if_pos (fun y => q ⟨z, y⟩)])
/-! images -/
theorem EQ4.of48 {f g : Int → Int} {c : Int} (hc : c ≤ 12) (h : ∀ x, 0 ≤ x → x < 48 → f x = g x) : EQ4 f g c := fun x h0 h1 => h x h0 (by omega)
theorem IJ.keep {i j vb vn vm vs d c : Int} {k : Bool} {g gi gz gmC gm u uI : Int → Int} (hj : 0 ≤ j ∧ j ≤ 1) (h : IJ j vb vn k d c g gi gz) (hM : IR vm 12 vb vn gmC gm) (hs : 0 ≤ vs ∧ vs < 2147483648) (hc : KPC i j gmC g u) (hm : KPG gi i gm vm vs uI) : IJ j vb vn (kpB i j k) (kpI i j vs d) (kpI i j vm c) u uI (kpZ gz i) := by
  by_cases e : i = j
  · subst e
    obtain ⟨m1, m2⟩ := hm.1 hj
    rw [kpB_y rfl, kpI_y rfl, kpI_y rfl]
    refine ⟨?_, fun _ => ⟨hM.1, hM.hmc.eq hM.1.2 (hc.1 rfl), m1.2.1, m1.2.2, hs, ?_⟩⟩
    · unfold kpZ
      rw [if_pos hj, upZ_s]
      rfl
    · intro x h0 h1
      have h12 := hM.1.2
      rw [hc.1 rfl x h0 (by omega)]
      show _ = uI (50 * i + x)
      rw [m1.1 x h0 (by omega)]
      exact hM.2.2 x h0 h1
  · rw [kpB_n e, kpI_n e, kpI_n e, hc.2 e]
    have hz : kpZ gz i j = gz j := by
      unfold kpZ
      split
      · exact upZ_n (fun z => e z.symm)
      · rfl
    have hg : ∀ x, 0 ≤ x → x < 50 → uI (50 * j + x) = gi (50 * j + x) := by
      by_cases q : 0 ≤ i ∧ i ≤ 1
      · exact fun x h0 h1 => (hm.1 q).2 j x hj.1 hj.2 (fun z => e z.symm) h0 h1
      · rw [hm.2 q]; exact fun _ _ _ => rfl
    refine ⟨by rw [hz]; exact h.1, fun hk => ?_⟩
    obtain ⟨a1, a2, a3, a4, a5, a6⟩ := h.2 hk
    refine ⟨a1, a2, by rw [hg 48 (by omega) (by omega)]; exact a3, by rw [hg 49 (by omega) (by omega)]; exact a4, a5, fun x h0 h1 => ?_⟩
    show _ = uI (50 * j + x)
    rw [hg x h0 (by omega)]
    exact a6 x h0 h1
theorem II.keep {i vb vn vm vs d0 c0 d1 c1 : Int} {k0 k1 : Bool} {g0 g1 gi gz gmC gm u0 u1 uI : Int → Int} (h : II vb vn k0 k1 d0 c0 d1 c1 g0 g1 gi gz) (hM : IR vm 12 vb vn gmC gm) (hs : 0 ≤ vs ∧ vs < 2147483648) (hc : KPC i 0 gmC g0 u0 ∧ KPC i 1 gmC g1 u1) (hm : KPG gi i gm vm vs uI) : II vb vn (kpB i 0 k0) (kpB i 1 k1) (kpI i 0 vs d0) (kpI i 0 vm c0) (kpI i 1 vs d1) (kpI i 1 vm c1) u0 u1 uI (kpZ gz i) := by
  refine ⟨fun j j0 j1 => ?_, h.2.1.keep ⟨by omega, by omega⟩ hM hs hc.1 hm, h.2.2.keep ⟨by omega, by omega⟩ hM hs hc.2 hm⟩
  unfold kpZ
  split
  · by_cases e : j = i
    · rw [e, upZ_s]; exact Or.inr rfl
    · rw [upZ_n e]; exact h.1 j j0 j1
  · exact h.1 j j0 j1
theorem II.go {i vb vn vm vs d0 c0 d1 c1 : Int} {k0 k1 : Bool} {g0 g1 gi gz gmC gm uC u : Int → Int} (h : II vb vn k0 k1 d0 c0 d1 c1 g0 g1 gi gz) (hM : IR vm 12 vb vn gmC gm) (hs : 0 ≤ vs ∧ vs < 2147483648) (hc : GBC (gbW i k0 k1) g0 g1 gmC uC) (hm : GBG gz gi i gm u) :
    gbX (gbW i k0 k1) c0 c1 vm = gbN gz gi i vm ∧ gbX (gbW i k0 k1) d0 d1 vs = gbS gz gi i vs ∧ IR (gbN gz gi i vm) 12 vb vn uC u ∧ (0 ≤ gbS gz gi i vs ∧ gbS gz gi i vs < 2147483648) ∧ aGoBack i (kz i k0 k1) = aGoBack i (gz i) := by
  have z0 := h.2.1.1
  have z1 := h.2.2.1
  have key : ∀ (j : Int) (k : Bool) (d c : Int) (g : Int → Int), (j = 0 ∨ j = 1) → IJ j vb vn k d c g gi gz → k = true → i = j → (∀ x, 0 ≤ x → x < 48 → uC x = g x) →
      c = gbN gz gi i vm ∧ d = gbS gz gi i vs ∧ IR (gbN gz gi i vm) 12 vb vn uC u ∧ (0 ≤ gbS gz gi i vs ∧ gbS gz gi i vs < 2147483648) := by
    intro j k d c g hj hI hk e hx
    subst e
    obtain ⟨a1, a2, a3, a4, a5, a6⟩ := hI.2 hk
    have hgz : gz i ≠ 0 := by rw [hI.1, pI_t hk]; decide
    have hko : (0 ≤ i ∧ i ≤ 1) ∧ gz i ≠ 0 := ⟨by omega, hgz⟩
    have e1 : gbN gz gi i vm = gi (50 * i + 48) := if_pos hko
    have e2 : gbS gz gi i vs = gi (50 * i + 49) := if_pos hko
    rw [e1, e2, a3, a4]
    have hu := hm.1 hko
    have hug : EQ4 uC u c := fun x h0 h1 => by rw [hx x h0 (by omega), hu x h0 (by omega)]; exact a6 x h0 h1
    have hH : HM uC c vb vn := a2.eq a1.2 hx
    exact ⟨rfl, rfl, ⟨a1, hH.cg hug.symm, hug⟩, a5⟩
  by_cases q0 : i = 0 ∧ k0 = true
  · have hw : gbW i k0 k1 = 0 := if_pos q0
    rw [hw] at hc ⊢
    obtain ⟨b1, b2, b3, b4⟩ := key 0 k0 d0 c0 g0 (Or.inl rfl) h.2.1 q0.2 q0.1 (hc.1 rfl)
    refine ⟨b1, b2, b3, b4, ?_⟩
    have : kz i k0 k1 = gz i := by rw [q0.1]; exact z0.symm
    rw [this]
  · by_cases q1 : i = 1 ∧ k1 = true
    · have hw : gbW i k0 k1 = 1 := (if_neg q0).trans (if_pos q1)
      rw [hw] at hc ⊢
      obtain ⟨b1, b2, b3, b4⟩ := key 1 k1 d1 c1 g1 (Or.inr rfl) h.2.2 q1.2 q1.1 (hc.2.1 rfl)
      refine ⟨b1, b2, b3, b4, ?_⟩
      have : kz i k0 k1 = gz i := by rw [q1.1]; exact z1.symm
      rw [this]
    · have hw : gbW i k0 k1 = 2 := (if_neg q0).trans (if_neg q1)
      rw [hw] at hc ⊢
      have hko : ¬ ((0 ≤ i ∧ i ≤ 1) ∧ gz i ≠ 0) := by
        rintro ⟨a, b⟩
        rcases (by omega : i = 0 ∨ i = 1) with e | e
        · rw [e, z0] at b
          by_cases w : k0 = true
          · exact q0 ⟨e, w⟩
          · exact b (pI_f w)
        · rw [e, z1] at b
          by_cases w : k1 = true
          · exact q1 ⟨e, w⟩
          · exact b (pI_f w)
      have e1 : gbN gz gi i vm = vm := if_neg hko
      have e2 : gbS gz gi i vs = vs := if_neg hko
      rw [e1, e2, hc.2.2 (by decide) (by decide), hm.2 hko]
      refine ⟨rfl, rfl, hM, hs, ?_⟩
      unfold aGoBack
      refine iteN (fun r => ?_)
      have : kz i k0 k1 = gz i := by
        rcases (by omega : i = 0 ∨ i = 1) with e | e
        · rw [e]; exact z0.symm
        · rw [e]; exact z1.symm
      rw [this]
/-! a house more -/
theorem IH.new {s : Int → Int} {L : Int} {K : Nat} {vo : Int} {fb ft gb gt : Int → Int} (hT : TXT s L) (hK : PEND s K) (ho : vo = if pO s K = 0 then 5 else pO s K) (hB : HB fb) (hTt : HT ft) (h1 : EQ4 fb (pFB s K) (pB s K)) (h2 : EQ4 ft (pFT s K) (pN s K)) (h3 : EQ4 gb (pFB s K) (pB s K)) (h4 : EQ4 gt (pFT s K) (pN s K)) : IH (pB s K) (pN s K) vo fb ft gb gt := by
  have hb := pst_b hT hK.1
  have hv := pst_hv hT K hK.1
  refine ⟨hb.2.2.1, hb.2.1, ?_, hB, hTt, hv.1.cg h3, hv.2.cg h4, h1.trans h3.symm, h2.trans h4.symm⟩
  rw [ho]
  have := hb.2.2.2.1
  split <;> omega
theorem II.zero {vb vn d0 c0 d1 c1 : Int} {g0 g1 gi gz : Int → Int} (h0 : gz 0 = 0) (h1 : gz 1 = 0) : II vb vn false false d0 c0 d1 c1 g0 g1 gi gz := ⟨fun j j0 j1 => Or.inl (by rcases (by omega : j = 0 ∨ j = 1) with e | e <;> rw [e] <;> assumption), ⟨by rw [h0]; rfl, fun z => absurd z (by decide)⟩, ⟨by rw [h1]; rfl, fun z => absurd z (by decide)⟩⟩
theorem CASI.off {nb n nb' n' : Int} {H H' : Int → Int → Int} {cb : Bool} {cu cp : Int} {l U P K N w : Int → Int} (h : CASI nb n H cb cu cp l U P K N w) : CASI nb' n' H' false cu cp l U P K N w := ⟨h.1, h.2.1, h.2.2.1, fun z => absurd z (by decide)⟩
theorem FLS.off {n c : Int} {fb ft gm : Int → Int} {fo : Int} : FLS n c fb ft gm false fo := fun z => absurd z (by decide)
