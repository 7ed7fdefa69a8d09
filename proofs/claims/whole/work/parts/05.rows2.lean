/-! truth as a number; calls of methods that only read, and of methods that make nothing -/
def pI (P : Prop) [Decidable P] : Int := if P then 1 else 0
theorem pI_t {P : Prop} [Decidable P] (h : P) : pI P = 1 := if_pos h
theorem pI_f {P : Prop} [Decidable P] (h : ¬ P) : pI P = 0 := if_neg h
theorem pI_01 (P : Prop) [Decidable P] : pI P = 0 ∨ pI P = 1 := by
  unfold pI
  by_cases h : P
  · rw [if_pos h]; exact Or.inr rfl
  · rw [if_neg h]; exact Or.inl rfl
theorem pI_congr {P Q : Prop} [Decidable P] [Decidable Q] (h : P ↔ Q) : pI P = pI Q := by
  unfold pI
  by_cases hq : Q
  · rw [if_pos (h.mpr hq), if_pos hq]
  · rw [if_neg (fun z => hq (h.mp z)), if_neg hq]
theorem pI_eq1 {P : Prop} [Decidable P] {z : Int} (h : P) (hz : z = 1) : pI P = z := by rw [pI_t h, hz]
theorem pI_eq0 {P : Prop} [Decidable P] {z : Int} (h : ¬ P) (hz : z = 0) : pI P = z := by rw [pI_f h, hz]
theorem pI_dec (P : Prop) [Decidable P] : pI P = pI (decide P = true) := pI_congr (by simp)
theorem pI_R (P : Prop) [Decidable P] : InR (pI P) := by rcases pI_01 P with h | h <;> (rw [h]; exact ⟨by omega, by omega⟩)
theorem eqI {a b : Int} (h : a = b) : (some (Value.int (iI a)) : Option Value) = some (.int (iI b)) := by rw [h]
theorem eqL {a b : Int} (h : a = b) : (some (Value.long (lI a)) : Option Value) = some (.long (lI b)) := by rw [h]
theorem bound_mul {a b A B : Int} (h1 : 0 ≤ a) (h2 : a ≤ A) (h3 : 0 ≤ b) (h4 : b ≤ B) : 0 ≤ a * b ∧ a * b ≤ A * B := ⟨Int.mul_nonneg h1 h3, Int.mul_le_mul h2 h4 h3 (Int.le_trans h1 h2)⟩
section ROWS2
variable {l : Launch} {own nm : String} {b : ByteArray} {nL : Nat} {R : Room} {G : GT} {V : VT} {kc ks pc : Nat} {ws : va_W} {ls : List (Option Value)} {st rest : List Value}
theorem Mach.if_eqP (M : Mach l own nm b nL R G V) {P : Prop} [Decidable P] {off : Int} {tgt : Nat} (d : decode b pc = .ok (.ifCond .eq off, 3)) (ht : (pc : Int) + off = (tgt : Int)) (kt : ¬ P → V kc ks tgt ws ls st) (kf : P → V kc ks (pc + 3) ws ls st) : V kc ks pc ws ls (.int (iI (pI P)) :: st) := by
  refine M.if_eq d ht (pI_R P) (fun h => ?_) (fun h => ?_)
  · exact kt (fun hp => by rw [pI_t hp] at h; omega)
  · by_cases hp : P
    · exact kf hp
    · rw [pI_f hp] at h; omega
theorem Mach.if_neP (M : Mach l own nm b nL R G V) {P : Prop} [Decidable P] {off : Int} {tgt : Nat} (d : decode b pc = .ok (.ifCond .ne off, 3)) (ht : (pc : Int) + off = (tgt : Int)) (kt : P → V kc ks tgt ws ls st) (kf : ¬ P → V kc ks (pc + 3) ws ls st) : V kc ks pc ws ls (.int (iI (pI P)) :: st) := by
  refine M.if_ne d ht (pI_R P) (fun h => ?_) (fun h => ?_)
  · by_cases hp : P
    · exact kt hp
    · rw [pI_f hp] at h; omega
  · exact kf (fun hp => by rw [pI_t hp] at h; omega)
theorem Mach.putfZ (M : Mach l own nm b nL R G V) {idx ci k0 : Nat} {a : Nat} {fs : List Value} {z : Int} (t : Bool) (hz : z = pI (t = true)) (F : FP own idx ci k0 .boolean false) (q0 : Nat) (hw : ws[q0]? = some (a, eO ci fs)) (hl0 : k0 < fs.length) (d : decode b pc = .ok (.putfield idx, 3)) (k : V kc ks (pc + 3) (ws.set q0 (a, eO ci (fs.set k0 (.int (iI (pI (t = true))))))) ls st) : V kc ks pc ws ls (.int (iI z) :: .ref a :: st) := by
  subst hz
  refine M.putf F q0 hw ?_ ?_ hl0 d k
  · cases t <;> decide +kernel
  · cases t <;> decide +kernel
theorem Mach.pV (M : Mach l own nm b nL R G V) {y : MethodName} {cy : ByteArray} {ny : Nat} {ry : Option FieldType} {rm : Room} {av : List Value} {wc : va_W} {idx n : Nat} {r : Option Value} (C : ConF l G y cy ny ry rm av wc r) (F : MV own idx y cy ny ry n) (is : List Nat) (hC : is.map (fun i => ws[i]?) = wc.map some) (hn : va_nd is = true) {a ci : Nat} {fs : List Value} {As : List Value} (heq : av = .ref a :: As) (q0 : Nat) (hwr : ws[q0]? = some (a, eO ci fs)) {Tc : u_T} {Nc : Nat} (hcl : vwCl[ci]? = some (y.cls, Tc, Nc)) (hav : As.length = n) (hst : st = As.reverse ++ .ref a :: rest) (hcat : (rest.map fun v => v.category).sum ≤ 8) (hz : ls.length = nL) (hR : rm.frames + 1 ≤ R.frames ∧ 8 + (ny + 11) + rm.locals ≤ R.locals) (hk : kc + rm.cells ≤ R.cells ∧ ks + rm.slots ≤ R.slots) (h0 : (rm.cells, rm.slots) = (0, 0))  (d : decode b pc = .ok (.invokevirtual idx, 3)) (k : V kc ks (pc + 3) ws ls (r.toList ++ rest)) : V kc ks pc ws ls st := by
  have e1 : rm.cells = 0 := congrArg Prod.fst h0
  have e2 : rm.slots = 0 := congrArg Prod.snd h0
  refine M.invV C F is hC hn heq q0 hcl hwr hav hst hcat hz hR hk (fun _ => wc) (fun _ => []) (fun _ => by rw [List.append_nil]) (fun _ => rfl) d (fun _ _ => ?_)
  rw [e1, e2, Nat.add_zero, Nat.add_zero, List.append_nil, putL_self is ws wc hC]
  exact k
theorem Mach.mV (M : Mach l own nm b nL R G V) {y : MethodName} {cy : ByteArray} {ny : Nat} {ry : Option FieldType} {rm : Room} {av : List Value} {wc : va_W} {idx n : Nat} {S : Type} {rv : S → Option Value} {w1 : S → va_W} {post : S → Prop} (C : Con l G y cy ny ry rm av wc rv w1 post) (F : MV own idx y cy ny ry n) (is : List Nat) (hC : is.map (fun i => ws[i]?) = wc.map some) (hn : va_nd is = true) {a ci : Nat} {fs : List Value} {As : List Value} (heq : av = .ref a :: As) (q0 : Nat) (hwr : ws[q0]? = some (a, eO ci fs)) {Tc : u_T} {Nc : Nat} (hcl : vwCl[ci]? = some (y.cls, Tc, Nc)) (hav : As.length = n) (hst : st = As.reverse ++ .ref a :: rest) (hcat : (rest.map fun v => v.category).sum ≤ 8) (hz : ls.length = nL) (hR : rm.frames + 1 ≤ R.frames ∧ 8 + (ny + 11) + rm.locals ≤ R.locals) (hk : kc + rm.cells ≤ R.cells ∧ ks + rm.slots ≤ R.slots) (h0 : (rm.cells, rm.slots) = (0, 0)) (hf : ∀ u, (w1 u).map Prod.fst = wc.map Prod.fst) (d : decode b pc = .ok (.invokevirtual idx, 3)) (k : ∀ u, post u → V kc ks (pc + 3) (putL ws is (w1 u)) ls ((rv u).toList ++ rest)) : V kc ks pc ws ls st := by
  have e1 : rm.cells = 0 := congrArg Prod.fst h0
  have e2 : rm.slots = 0 := congrArg Prod.snd h0
  refine M.invV C F is hC hn heq q0 hcl hwr hav hst hcat hz hR hk w1 (fun _ => []) (fun _ => by rw [List.append_nil]) hf d (fun u hu => ?_)
  rw [e1, e2, Nat.add_zero, Nat.add_zero, List.append_nil]
  exact k u hu
theorem Mach.pS (M : Mach l own nm b nL R G V) {y : MethodName} {cy : ByteArray} {ny : Nat} {ry : Option FieldType} {rm : Room} {av : List Value} {wc : va_W} {idx n : Nat} {r : Option Value} (C : ConF l G y cy ny ry rm av wc r) (F : MS own idx y cy ny ry n) (is : List Nat) (hC : is.map (fun i => ws[i]?) = wc.map some) (hn : va_nd is = true) (hav : av.length = n) (hst : st = av.reverse ++ rest) (hcat : (rest.map fun v => v.category).sum ≤ 8) (hz : ls.length = nL) (hR : rm.frames + 1 ≤ R.frames ∧ 8 + (ny + 11) + rm.locals ≤ R.locals) (hk : kc + rm.cells ≤ R.cells ∧ ks + rm.slots ≤ R.slots) (h0 : (rm.cells, rm.slots) = (0, 0))  (d : decode b pc = .ok (.invokestatic idx, 3)) (k : V kc ks (pc + 3) ws ls (r.toList ++ rest)) : V kc ks pc ws ls st := by
  have e1 : rm.cells = 0 := congrArg Prod.fst h0
  have e2 : rm.slots = 0 := congrArg Prod.snd h0
  refine M.invS C F is hC hn hav hst hcat hz hR hk (fun _ => wc) (fun _ => []) (fun _ => by rw [List.append_nil]) (fun _ => rfl) d (fun _ _ => ?_)
  rw [e1, e2, Nat.add_zero, Nat.add_zero, List.append_nil, putL_self is ws wc hC]
  exact k
theorem Mach.mS (M : Mach l own nm b nL R G V) {y : MethodName} {cy : ByteArray} {ny : Nat} {ry : Option FieldType} {rm : Room} {av : List Value} {wc : va_W} {idx n : Nat} {S : Type} {rv : S → Option Value} {w1 : S → va_W} {post : S → Prop} (C : Con l G y cy ny ry rm av wc rv w1 post) (F : MS own idx y cy ny ry n) (is : List Nat) (hC : is.map (fun i => ws[i]?) = wc.map some) (hn : va_nd is = true) (hav : av.length = n) (hst : st = av.reverse ++ rest) (hcat : (rest.map fun v => v.category).sum ≤ 8) (hz : ls.length = nL) (hR : rm.frames + 1 ≤ R.frames ∧ 8 + (ny + 11) + rm.locals ≤ R.locals) (hk : kc + rm.cells ≤ R.cells ∧ ks + rm.slots ≤ R.slots) (h0 : (rm.cells, rm.slots) = (0, 0)) (hf : ∀ u, (w1 u).map Prod.fst = wc.map Prod.fst) (d : decode b pc = .ok (.invokestatic idx, 3)) (k : ∀ u, post u → V kc ks (pc + 3) (putL ws is (w1 u)) ls ((rv u).toList ++ rest)) : V kc ks pc ws ls st := by
  have e1 : rm.cells = 0 := congrArg Prod.fst h0
  have e2 : rm.slots = 0 := congrArg Prod.snd h0
  refine M.invS C F is hC hn hav hst hcat hz hR hk w1 (fun _ => []) (fun _ => by rw [List.append_nil]) hf d (fun u hu => ?_)
  rw [e1, e2, Nat.add_zero, Nat.add_zero, List.append_nil]
  exact k u hu
theorem Mach.pSN (M : Mach l own nm b nL R G V) {y : MethodName} {cy : ByteArray} {ny : Nat} {ry : Option FieldType} {rm : Room} {av : List Value} {wc : va_W} {idx n : Nat} {r : Option Value} (C : ConF l G y cy ny ry rm av wc r) {host : String} (F : MSN own idx y host cy ny ry n) (is : List Nat) (hC : is.map (fun i => ws[i]?) = wc.map some) (hn : va_nd is = true) (hav : av.length = n) (hst : st = av.reverse ++ rest) (hcat : (rest.map fun v => v.category).sum ≤ 8) (hz : ls.length = nL) (hR : rm.frames + 1 ≤ R.frames ∧ 8 + (ny + 11) + rm.locals ≤ R.locals) (hk : kc + rm.cells ≤ R.cells ∧ ks + rm.slots ≤ R.slots) (h0 : (rm.cells, rm.slots) = (0, 0))  (d : decode b pc = .ok (.invokestatic idx, 3)) (k : V kc ks (pc + 3) ws ls (r.toList ++ rest)) : V kc ks pc ws ls st := by
  have e1 : rm.cells = 0 := congrArg Prod.fst h0
  have e2 : rm.slots = 0 := congrArg Prod.snd h0
  refine M.invSN C F is hC hn hav hst hcat hz hR hk (fun _ => wc) (fun _ => []) (fun _ => by rw [List.append_nil]) (fun _ => rfl) d (fun _ _ => ?_)
  rw [e1, e2, Nat.add_zero, Nat.add_zero, List.append_nil, putL_self is ws wc hC]
  exact k
theorem Mach.mSN (M : Mach l own nm b nL R G V) {y : MethodName} {cy : ByteArray} {ny : Nat} {ry : Option FieldType} {rm : Room} {av : List Value} {wc : va_W} {idx n : Nat} {S : Type} {rv : S → Option Value} {w1 : S → va_W} {post : S → Prop} (C : Con l G y cy ny ry rm av wc rv w1 post) {host : String} (F : MSN own idx y host cy ny ry n) (is : List Nat) (hC : is.map (fun i => ws[i]?) = wc.map some) (hn : va_nd is = true) (hav : av.length = n) (hst : st = av.reverse ++ rest) (hcat : (rest.map fun v => v.category).sum ≤ 8) (hz : ls.length = nL) (hR : rm.frames + 1 ≤ R.frames ∧ 8 + (ny + 11) + rm.locals ≤ R.locals) (hk : kc + rm.cells ≤ R.cells ∧ ks + rm.slots ≤ R.slots) (h0 : (rm.cells, rm.slots) = (0, 0)) (hf : ∀ u, (w1 u).map Prod.fst = wc.map Prod.fst) (d : decode b pc = .ok (.invokestatic idx, 3)) (k : ∀ u, post u → V kc ks (pc + 3) (putL ws is (w1 u)) ls ((rv u).toList ++ rest)) : V kc ks pc ws ls st := by
  have e1 : rm.cells = 0 := congrArg Prod.fst h0
  have e2 : rm.slots = 0 := congrArg Prod.snd h0
  refine M.invSN C F is hC hn hav hst hcat hz hR hk w1 (fun _ => []) (fun _ => by rw [List.append_nil]) hf d (fun u hu => ?_)
  rw [e1, e2, Nat.add_zero, Nat.add_zero, List.append_nil]
  exact k u hu
theorem lo_mem2 {la : Array Slot} {ls ls2 : List (Option Value)} (h : lo_has la ls) (hl : ls2.length = ls.length) (hs : ∀ (i : Nat) (v : Value), ls2[i]? = some (some v) → ls[i]? = some (some v)) : lo_has la ls2 := by
  refine ⟨h.1.trans hl.symm, h.2.1, fun q hq => h.2.2 q ?_⟩
  obtain ⟨j, w⟩ := q
  obtain ⟨k, h1, h2⟩ := (lo_mem _ _ _ _).mp hq
  exact (lo_mem _ _ _ _).mpr ⟨k, h1, hs k w h2⟩
theorem Mach.forget (M : Mach l own nm b nL R G V) (i : Nat) (k : V kc ks pc ws (ls.set i none) st) : V kc ks pc ws ls st := by
  obtain ⟨p, e, s, m, args, below, meth, c, A, Q, rfl, hx, hb, hml, hown, hts, hK, hN, hA, hnm⟩ := M
  intro H locs la hP hD hS hl
  refine k H locs la hP hD hS (lo_mem2 hl (List.length_set) (fun j v hj => ?_))
  by_cases e : i = j
  · subst e
    by_cases hi : i < ls.length
    · rw [List.getElem?_set_self hi] at hj
      simp at hj
    · rw [List.getElem?_eq_none (by rw [List.length_set]; omega)] at hj
      simp at hj
  · rwa [List.getElem?_set_ne e] at hj
theorem Mach.ialdx (M : Mach l own nm b nL R G V) {a n : Nat} {g : Int → Int} {i : Int} (j : Int) (hj : i = j) (q0 : Nat) (hw : ws[q0]? = some (a, eI G n g)) (h0 : 0 ≤ i ∧ i < (n : Int)) (hn : n < 2147483648) (d : decode b pc = .ok (.iaload, 1)) (k : V kc ks (pc + 1) ws ls (.int (iI (g j)) :: st)) : V kc ks pc ws ls (.int (iI i) :: .ref a :: st) := by
  subst hj
  exact M.iald q0 hw h0 hn d k
theorem Mach.iastx (M : Mach l own nm b nL R G V) {a n : Nat} {g : Int → Int} {i x : Int} (j : Int) (hj : i = j) (q0 : Nat) (hw : ws[q0]? = some (a, eI G n g)) (h0 : 0 ≤ i ∧ i < (n : Int)) (hn : n < 2147483648) (d : decode b pc = .ok (.iastore, 1)) (k : V kc ks (pc + 1) (ws.set q0 (a, eI G n (upZ g j x))) ls st) : V kc ks pc ws ls (.int (iI x) :: .int (iI i) :: .ref a :: st) := by
  subst hj
  exact M.iast q0 hw h0 hn d k
end ROWS2
