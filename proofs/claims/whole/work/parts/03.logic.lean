/-! THE WALKING LOGIC: a method's walk as a predicate V over (cells, slots, pc, world, locals, stack); ints by whole numbers (iI z) -/
def iI (z : Int) : Int32 := Int32.ofInt z
def lI (z : Int) : Int64 := Int64.ofInt z
abbrev InR (z : Int) : Prop := -2147483648 ≤ z ∧ z < 2147483648
abbrev InL (z : Int) : Prop := -9223372036854775808 ≤ z ∧ z < 9223372036854775808
theorem iI_t {z : Int} (h : InR z) : (iI z).toInt = z := Int32.toInt_ofInt_of_le (by omega) (by omega)
theorem iI_of (x : Int32) : x = iI x.toInt := (Int32.ofInt_toInt x).symm
theorem iI_r (x : Int32) : InR x.toInt := ⟨by have := x.le_toInt; omega, by have := x.toInt_lt; omega⟩
theorem iI_add (a b : Int) : iI a + iI b = iI (a + b) := (Int32.ofInt_add a b).symm
theorem iI_sub (a b : Int) : iI a - iI b = iI (a - b) := (Int32.ofInt_sub a b).symm
theorem iI_mul (a b : Int) : iI a * iI b = iI (a * b) := (Int32.ofInt_mul a b).symm
theorem iI_neg (a : Int) : -iI a = iI (-a) := (Int32.ofInt_neg a).symm
theorem iI_lt {a b : Int} (ha : InR a) (hb : InR b) : iI a < iI b ↔ a < b := by rw [Int32.lt_iff_toInt_lt, iI_t ha, iI_t hb]
theorem iI_le {a b : Int} (ha : InR a) (hb : InR b) : iI a ≤ iI b ↔ a ≤ b := by rw [Int32.le_iff_toInt_le, iI_t ha, iI_t hb]
theorem iI_eq {a b : Int} (ha : InR a) (hb : InR b) : iI a = iI b ↔ a = b := ⟨fun h => by have h2 := congrArg Int32.toInt h; rwa [iI_t ha, iI_t hb] at h2, fun h => by rw [h]⟩
theorem iI_0 : iI 0 = 0 := by decide +kernel
theorem iI_nat (n : Nat) : iI (n : Int) = nI n := Int32.ofInt_eq_ofNat
theorem iI_clamp {z : Int} (h0 : 0 ≤ z) (h : z < 2147483648) : (iI z).toNatClampNeg = z.toNat := by
  rw [← Int32.toNat_toInt, iI_t ⟨by omega, h⟩]
theorem iI_in {z : Int} {n : Nat} (h0 : 0 ≤ z) (h : z < n) (hn : n < 2147483648) : vp_in (iI z) n := by
  rw [vp_in_iff, iI_t ⟨by omega, by omega⟩]
  exact ⟨h0, h⟩
theorem iI_div {a b : Int} (ha : 0 ≤ a) (ha2 : a < 2147483648) (hb : 0 < b) (hb2 : b < 2147483648) : iI a / iI b = iI (a / b) := by
  have h := Int32.ofInt_tdiv (a := a) (b := b) (by show (-2147483648 : Int) ≤ a; omega) (by show a ≤ (2147483647 : Int); omega) (by show (-2147483648 : Int) ≤ b; omega) (by show b ≤ (2147483647 : Int); omega)
  rw [Int.tdiv_eq_ediv_of_nonneg ha] at h
  exact h.symm
theorem iI_rem {a b : Int} (ha : 0 ≤ a) (ha2 : a < 2147483648) (hb : 0 < b) (hb2 : b < 2147483648) : iI a - iI a / iI b * iI b = iI (a % b) := by
  rw [iI_div ha ha2 hb hb2, iI_mul, iI_sub, Int.emod_def, Int.mul_comm]
theorem iI_ne0 {b : Int} (h : b ≠ 0) (hb : InR b) : ¬ iI b = 0 := by
  rw [← iI_0, iI_eq hb ⟨by omega, by omega⟩]
  exact h
theorem lI_t {z : Int} (h : InL z) : (lI z).toInt = z := Int64.toInt_ofInt_of_le (by omega) (by omega)
theorem lI_of (x : Int64) : x = lI x.toInt := (Int64.ofInt_toInt x).symm
theorem lI_r (x : Int64) : InL x.toInt := ⟨by have := x.le_toInt; omega, by have := x.toInt_lt; omega⟩
theorem lI_add (a b : Int) : lI a + lI b = lI (a + b) := (Int64.ofInt_add a b).symm
theorem lI_sub (a b : Int) : lI a - lI b = lI (a - b) := (Int64.ofInt_sub a b).symm
theorem lI_mul (a b : Int) : lI a * lI b = lI (a * b) := (Int64.ofInt_mul a b).symm
theorem lI_lt {a b : Int} (ha : InL a) (hb : InL b) : lI a < lI b ↔ a < b := by rw [Int64.lt_iff_toInt_lt, lI_t ha, lI_t hb]
theorem lI_eq {a b : Int} (ha : InL a) (hb : InL b) : lI a = lI b ↔ a = b := ⟨fun h => by have h2 := congrArg Int64.toInt h; rwa [lI_t ha, lI_t hb] at h2, fun h => by rw [h]⟩
theorem lI_0 : lI 0 = 0 := by decide +kernel
theorem lI_ne0 {b : Int} (h : b ≠ 0) (hb : InL b) : ¬ lI b = 0 := by
  rw [← lI_0, lI_eq hb ⟨by omega, by omega⟩]
  exact h
theorem lI_div {a b : Int} (ha : 0 ≤ a) (ha2 : a < 9223372036854775808) (hb : 0 < b) (hb2 : b < 9223372036854775808) : lI a / lI b = lI (a / b) := by
  have h := Int64.ofInt_tdiv (a := a) (b := b) (by show (-9223372036854775808 : Int) ≤ a; omega) (by show a ≤ (9223372036854775807 : Int); omega) (by show (-9223372036854775808 : Int) ≤ b; omega) (by show b ≤ (9223372036854775807 : Int); omega)
  rw [Int.tdiv_eq_ediv_of_nonneg ha] at h
  exact h.symm
theorem lI_rem {a b : Int} (ha : 0 ≤ a) (ha2 : a < 9223372036854775808) (hb : 0 < b) (hb2 : b < 9223372036854775808) : lI a - lI a / lI b * lI b = lI (a % b) := by
  rw [lI_div ha ha2 hb hb2, lI_mul, lI_sub, Int.emod_def, Int.mul_comm]
theorem iI_l {a : Int} (h : InR a) : (iI a).toInt64 = lI a := by
  rw [← Int64.toInt_inj, Int32.toInt_toInt64, iI_t h, lI_t ⟨by omega, by omega⟩]
theorem lI_i (a : Int) : (lI a).toInt32 = iI a := Int64.toInt32_ofInt
theorem lI_cmp {a b : Int} (ha : InL a) (hb : InL b) : lg_cmp (lI a) (lI b) = iI (if a < b then -1 else if a = b then 0 else 1) := by
  unfold lg_cmp
  by_cases h1 : a < b
  · have h3 : ¬ lI a > lI b := by rw [gt_iff_lt, lI_lt hb ha]; omega
    have h4 : ¬ lI a = lI b := by rw [lI_eq ha hb]; omega
    rw [if_pos h1, if_neg h3, if_neg h4]; decide +kernel
  · by_cases h2 : a = b
    · rw [if_neg h1, if_pos h2]
      subst h2
      have : ¬ lI a > lI a := by rw [gt_iff_lt, lI_lt ha ha]; omega
      rw [if_neg this, if_pos rfl]; decide +kernel
    · have h3 : lI a > lI b := by rw [gt_iff_lt, lI_lt hb ha]; omega
      rw [if_neg h1, if_neg h2, if_pos h3]; decide +kernel
/-! the tables' words that stay -/
def big : List Cond := lw_tbl.filter goodWord
theorem mem_big {w : Cond} (h : w ∈ lw_tbl) (g : goodWord w = true) : w ∈ big := List.mem_filter.mpr ⟨h, g⟩
theorem big_lw {w : Cond} (h : w ∈ big) : w ∈ lw_tbl := (List.mem_filter.mp h).1
theorem goodBig {y : MethodName} {cy : ByteArray} {ny : Nat} {ry : Option FieldType} (h : Cond.code y cy ny ry ∈ big) : GoodIn big (Cond.code y cy ny ry :: big) := by
  intro w hw
  rcases List.mem_cons.mp hw with rfl | h2
  · exact ⟨h, Or.inl rfl⟩
  · exact ⟨h2, good_of_word (List.mem_filter.mp h2).2⟩
def nestQ : List (String × Nat × MethodName × String) := [(RX7, 9, yX5_init, RX7), (RX7, 30, yX4_init, RX7), (RX7, 40, yX1_init, RX7), (RX7, 47, yX2_init, RX7), (RX2, 11, yX1_init, RX7), (RX7, 54, yX0_init, RX7), (RX7, 61, yX3_init, RX7), (RX1, 75, yX7_has, RX7), (RX3, 59, yX7_has, RX7), (RX2, 58, yX7_has, RX7), (RX0, 82, yX7_has, RX7)]
def nestOK (U : State) : Prop := ∀ q ∈ nestQ, va_Nw (.methodLinkNest q.1 q.2.1 q.2.2.1 q.2.2.2) U
theorem nestOK.warm {s U : State} (hW : s.WarmedH U.vm) (h : nestOK s) : nestOK U := fun q hq => va_Nw.warmM hW (h q hq)
theorem nestOK.same {u U : State} (h : u.vm = U.vm) (hz : nestOK u) : nestOK U := fun q hq => va_Nw.same rfl h (hz q hq)
/-! worlds -/
abbrev GT : Type := va_G × (ClassId × ClassId × ClassId × ClassId)
def T4 (G : GT) : List (ClassId × FieldType) := [(G.2.1, .int), (G.2.2.1, .byte), (G.2.2.2.1, .long), (G.2.2.2.2, .boolean)]
def eI (G : GT) (n : Nat) (g : Int → Int) : va_E := .inl (G.2.1, n, .inl (fun j : Nat => iI (g (j : Int))))
def eB (G : GT) (n : Nat) (g : Int → Int) : va_E := .inl (G.2.2.1, n, .inl (fun j : Nat => iI (g (j : Int))))
def eL (G : GT) (n : Nat) (g : Int → Int) : va_E := .inl (G.2.2.2.1, n, .inr (.inl (fun j : Nat => lI (g (j : Int)))))
def eZ (G : GT) (n : Nat) (g : Int → Int) : va_E := .inl (G.2.2.2.2, n, .inl (fun j : Nat => iI (g (j : Int))))
def eO (ci : Nat) (fs : List Value) : va_E := .inr (ci, fs)
def upZ (g : Int → Int) (i x : Int) : Int → Int := fun j => if j = i then x else g j
theorem upZ_s (g : Int → Int) (i x : Int) : upZ g i x i = x := if_pos rfl
theorem upZ_n {g : Int → Int} {i x j : Int} (h : j ≠ i) : upZ g i x j = g j := if_neg h
theorem upZ_up {g : Int → Int} {i x : Int} (h : 0 ≤ i) : upd (fun j : Nat => iI (g (j : Int))) i.toNat (iI x) = fun j : Nat => iI (upZ g i x (j : Int)) := by
  funext j
  unfold upd upZ
  by_cases hj : j = i.toNat
  · rw [if_pos hj, if_pos (by omega)]
  · rw [if_neg hj, if_neg (by omega)]
theorem upZ_upL {g : Int → Int} {i x : Int} (h : 0 ≤ i) : vp_updL (fun j : Nat => lI (g (j : Int))) i.toNat (lI x) = fun j : Nat => lI (upZ g i x (j : Int)) := by
  funext j
  unfold vp_updL upZ
  by_cases hj : j = i.toNat
  · rw [if_pos hj, if_pos (by omega)]
  · rw [if_neg hj, if_neg (by omega)]
/-! locals -/
def lo_pairs : Nat → List (Option Value) → List (Nat × Value)
  | _, [] => []
  | i, none :: t => lo_pairs (i + 1) t
  | i, some v :: t => (i, v) :: lo_pairs (i + 1) t
theorem lo_mem : ∀ (ls : List (Option Value)) (k j : Nat) (v : Value), (j, v) ∈ lo_pairs k ls ↔ ∃ i, j = k + i ∧ ls[i]? = some (some v) := by
  intro ls
  induction ls with
  | nil => intro k j v; simp [lo_pairs]
  | cons x t ih =>
    intro k j v
    cases x with
    | none =>
      show (j, v) ∈ lo_pairs (k + 1) t ↔ _
      rw [ih]
      constructor
      · rintro ⟨i, h1, h2⟩
        exact ⟨i + 1, by omega, by simpa using h2⟩
      · rintro ⟨i, h1, h2⟩
        cases i with
        | zero => simp at h2
        | succ i => exact ⟨i, by omega, by simpa using h2⟩
    | some w =>
      show (j, v) ∈ (k, w) :: lo_pairs (k + 1) t ↔ _
      rw [List.mem_cons, ih]
      constructor
      · rintro (h | ⟨i, h1, h2⟩)
        · cases h; exact ⟨0, by omega, by simp⟩
        · exact ⟨i + 1, by omega, by simpa using h2⟩
      · rintro ⟨i, h1, h2⟩
        cases i with
        | zero =>
          left
          simp only [List.getElem?_cons_zero, Option.some.injEq] at h2
          rw [h1, h2]
          rfl
        | succ i => right; exact ⟨i, by omega, by simpa using h2⟩
def lo_has (la : Array Slot) (ls : List (Option Value)) : Prop := lv_has la ls.length (lo_pairs 0 ls)
theorem lo_at {la : Array Slot} {ls : List (Option Value)} {i : Nat} {v : Value} (h : lo_has la ls) (hi : ls[i]? = some (some v)) : la[i]? = some (.val v) := h.2.2 (i, v) ((lo_mem ls 0 i v).mpr ⟨i, by omega, hi⟩)
def lcat (ls : List (Option Value)) : Nat → Bool
  | 0 => true
  | j + 1 => match ls[j]? with
    | some (some w) => w.category != 2
    | _ => true
theorem lo_after {la : Array Slot} {ls : List (Option Value)} {i : Nat} {v : Value} (hi : i < ls.length) (hp : lcat ls i = true) (h : lv_has la ls.length ((i, v) :: (lo_pairs 0 ls).filter (fun q => !(q.1 == i) && !(q.1 + 1 == i && q.2.category == 2)))) : lo_has la (ls.set i (some v)) := by
  refine ⟨by rw [List.length_set]; exact h.1, h.2.1, fun q hq => h.2.2 q ?_⟩
  obtain ⟨j, w⟩ := q
  obtain ⟨k, h1, h2⟩ := (lo_mem _ _ _ _).mp hq
  have hjk : j = k := by omega
  subst hjk
  by_cases hj : j = i
  · subst hj
    rw [List.getElem?_set_self hi] at h2
    simp only [Option.some.injEq] at h2
    rw [h2]
    exact List.mem_cons_self
  · rw [List.getElem?_set_ne (Ne.symm hj)] at h2
    refine List.mem_cons_of_mem _ (List.mem_filter.mpr ⟨(lo_mem _ _ _ _).mpr ⟨j, by omega, h2⟩, ?_⟩)
    have hz : ¬ (j + 1 = i ∧ w.category = 2) := by
      rintro ⟨e1, e2⟩
      subst e1
      simp [lcat, h2, e2] at hp
    by_cases e1 : j + 1 = i
    · have e2 : ¬ w.category = 2 := fun z => hz ⟨e1, z⟩
      simp [hj, e2]
    · simp [hj, e1]
theorem lo_after2 {la : Array Slot} {ls : List (Option Value)} {i : Nat} {v : Value} (hi : i + 1 < ls.length) (hp : lcat ls i = true) (h : lv_has la ls.length ((i, v) :: (lo_pairs 0 ls).filter (fun q => !(q.1 == i) && (!(q.1 == i + 1) && !(q.1 + 1 == i && q.2.category == 2))))) : lo_has la ((ls.set i (some v)).set (i + 1) none) := by
  refine ⟨by rw [List.length_set, List.length_set]; exact h.1, h.2.1, fun q hq => h.2.2 q ?_⟩
  obtain ⟨j, w⟩ := q
  obtain ⟨k, h1, h2⟩ := (lo_mem _ _ _ _).mp hq
  have hjk : j = k := by omega
  subst hjk
  by_cases hj1 : j = i + 1
  · subst hj1
    rw [List.getElem?_set_self (by rw [List.length_set]; exact hi)] at h2
    simp at h2
  rw [List.getElem?_set_ne (Ne.symm hj1)] at h2
  by_cases hj : j = i
  · subst hj
    rw [List.getElem?_set_self (by omega)] at h2
    simp only [Option.some.injEq] at h2
    rw [h2]
    exact List.mem_cons_self
  · rw [List.getElem?_set_ne (Ne.symm hj)] at h2
    refine List.mem_cons_of_mem _ (List.mem_filter.mpr ⟨(lo_mem _ _ _ _).mpr ⟨j, by omega, h2⟩, ?_⟩)
    have hz : ¬ (j + 1 = i ∧ w.category = 2) := by
      rintro ⟨e1, e2⟩
      subst e1
      simp [lcat, h2, e2] at hp
    by_cases e1 : j + 1 = i
    · have e2 : ¬ w.category = 2 := fun z => hz ⟨e1, z⟩
      simp [hj, hj1, e2]
    · simp [hj, hj1, e1]
/-! the walk's predicate -/
abbrev VT : Type := Nat → Nat → Nat → va_W → List (Option Value) → List Value → Prop
def Vq (p : Program) (l : Launch) (e : Env) (R : Room) (s : State) (m : MethodId) (args : Array Value) (below : List Frame) (meth : Method) (c : Code) (A : Nat → Prop) (Q : State → Prop) (G : GT) : VT := fun kc ks pc ws ls st =>
  ∀ (H : Heap) (locs : List Loc) (la : Array Slot), va_P G.1 vwCl ws H → va_D A ws → va_S A s.heap H locs → lo_has la ls → W p l e R s m args below meth c H locs kc ks Q (F0 m pc la st)
def Mach (l : Launch) (own nm : String) (b : ByteArray) (nL : Nat) (R : Room) (G : GT) (V : VT) : Prop :=
  ∃ (p : Program) (e : Env) (s : State) (m : MethodId) (args : Array Value) (below : List Frame) (meth : Method) (c : Code) (A : Nat → Prop) (Q : State → Prop),
    V = Vq p l e R s m args below meth c A Q G ∧ p.tables.exec = Jvm.exec ∧ c.code = b ∧ c.maxLocals = nL ∧ s.vm.findClass own = some m.cls ∧ (∀ w ∈ big, w.before args s = true) ∧ va_K G.1 vwCl (T4 G) s ∧ nestOK s ∧ (∀ q, s.heap.size ≤ q → A q) ∧ meth.name = nm
section ROWS
variable {l : Launch} {own nm : String} {b : ByteArray} {nL : Nat} {R : Room} {G : GT} {V : VT} {kc ks pc : Nat} {ws : va_W} {ls : List (Option Value)} {st : List Value}
theorem Mach.iconst (M : Mach l own nm b nL R G V) {z : Int} (d : decode b pc = .ok (.iconst z, 1)) (k : V kc ks (pc + 1) ws ls (.int (iI z) :: st)) : V kc ks pc ws ls (st) := by
  obtain ⟨p, e, s, m, args, below, meth, c, A, Q, rfl, hx, hb, hml, hown, hts, hK, hN, hA, hnm⟩ := M
  intro H locs la hP hD hS hl
  refine lv_iconst (v := iI z) hx hb d rfl ?_
  exact k H locs la hP hD hS hl
theorem Mach.bipush (M : Mach l own nm b nL R G V) {z : Int} (h : (Int8.ofInt z).toInt32 = iI z) (d : decode b pc = .ok (.bipush z, 2)) (k : V kc ks (pc + 2) ws ls (.int (iI z) :: st)) : V kc ks pc ws ls (st) := by
  obtain ⟨p, e, s, m, args, below, meth, c, A, Q, rfl, hx, hb, hml, hown, hts, hK, hN, hA, hnm⟩ := M
  intro H locs la hP hD hS hl
  refine lv_bipush (v := iI z) hx hb d h ?_
  exact k H locs la hP hD hS hl
theorem Mach.sipush (M : Mach l own nm b nL R G V) {z : Int} (h : (Int16.ofInt z).toInt32 = iI z) (d : decode b pc = .ok (.sipush z, 3)) (k : V kc ks (pc + 3) ws ls (.int (iI z) :: st)) : V kc ks pc ws ls (st) := by
  obtain ⟨p, e, s, m, args, below, meth, c, A, Q, rfl, hx, hb, hml, hown, hts, hK, hN, hA, hnm⟩ := M
  intro H locs la hP hD hS hl
  refine lv_sipush (v := iI z) hx hb d h ?_
  exact k H locs la hP hD hS hl
theorem Mach.lconst (M : Mach l own nm b nL R G V) {n : Fin 2} (z : Int) (h : Int64.ofNat (n : Nat) = lI z) (d : decode b pc = .ok (.lconst n, 1)) (k : V kc ks (pc + 1) ws ls (.long (lI z) :: st)) : V kc ks pc ws ls (st) := by
  obtain ⟨p, e, s, m, args, below, meth, c, A, Q, rfl, hx, hb, hml, hown, hts, hK, hN, hA, hnm⟩ := M
  intro H locs la hP hD hS hl
  refine lv_lconst (v := lI z) hx hb d h ?_
  exact k H locs la hP hD hS hl
theorem Mach.ldc (M : Mach l own nm b nL R G V) {idx : Nat} {v : Int32} (z : Int) (hw : Cond.constant own idx v ∈ big) (h : v = iI z) (d : decode b pc = .ok (.ldc idx, 2)) (k : V kc ks (pc + 2) ws ls (.int (iI z) :: st)) : V kc ks pc ws ls (st) := by
  obtain ⟨p, e, s, m, args, below, meth, c, A, Q, rfl, hx, hb, hml, hown, hts, hK, hN, hA, hnm⟩ := M
  intro H locs la hP hD hS hl
  refine lv_ldc (v := iI z) hx hb hown (by rw [← h]; exact hts _ hw) d ?_
  exact k H locs la hP hD hS hl
theorem Mach.ldcw (M : Mach l own nm b nL R G V) {idx : Nat} {v : Int32} (z : Int) (hw : Cond.constant own idx v ∈ big) (h : v = iI z) (d : decode b pc = .ok (.ldc_w idx, 3)) (k : V kc ks (pc + 3) ws ls (.int (iI z) :: st)) : V kc ks pc ws ls (st) := by
  obtain ⟨p, e, s, m, args, below, meth, c, A, Q, rfl, hx, hb, hml, hown, hts, hK, hN, hA, hnm⟩ := M
  intro H locs la hP hD hS hl
  refine lv_ldcw (v := iI z) hx hb hown (by rw [← h]; exact hts _ hw) d ?_
  exact k H locs la hP hD hS hl
theorem Mach.ldc2 (M : Mach l own nm b nL R G V) {idx : Nat} {v : Int64} (z : Int) (hw : Cond.constantLong own idx v ∈ big) (h : v = lI z) (d : decode b pc = .ok (.ldc2_w idx, 3)) (k : V kc ks (pc + 3) ws ls (.long (lI z) :: st)) : V kc ks pc ws ls (st) := by
  obtain ⟨p, e, s, m, args, below, meth, c, A, Q, rfl, hx, hb, hml, hown, hts, hK, hN, hA, hnm⟩ := M
  intro H locs la hP hD hS hl
  refine lv_ldc2 (v := lI z) hx hb hown (by rw [← h]; exact hts _ hw) d ?_
  exact k H locs la hP hD hS hl
theorem Mach.iload (M : Mach l own nm b nL R G V) {i : Nat} {x : Int32} (h : ls[i]? = some (some (.int x))) (d : decode b pc = .ok (.iload i, 2)) (k : V kc ks (pc + 2) ws ls (.int x :: st)) : V kc ks pc ws ls (st) := by
  obtain ⟨p, e, s, m, args, below, meth, c, A, Q, rfl, hx, hb, hml, hown, hts, hK, hN, hA, hnm⟩ := M
  intro H locs la hP hD hS hl
  refine lv_iload hx hb d (lo_at hl h) ?_
  exact k H locs la hP hD hS hl
theorem Mach.iloadn (M : Mach l own nm b nL R G V) {j : Fin 4} (i : Nat) {x : Int32} (hi : (j : Nat) = i) (h : ls[i]? = some (some (.int x))) (d : decode b pc = .ok (.iload_n j, 1)) (k : V kc ks (pc + 1) ws ls (.int x :: st)) : V kc ks pc ws ls (st) := by
  obtain ⟨p, e, s, m, args, below, meth, c, A, Q, rfl, hx, hb, hml, hown, hts, hK, hN, hA, hnm⟩ := M
  intro H locs la hP hD hS hl
  refine lv_iload_n hx hb d hi (lo_at hl h) ?_
  exact k H locs la hP hD hS hl
theorem Mach.lload (M : Mach l own nm b nL R G V) {i : Nat} {x : Int64} (h : ls[i]? = some (some (.long x))) (d : decode b pc = .ok (.lload i, 2)) (k : V kc ks (pc + 2) ws ls (.long x :: st)) : V kc ks pc ws ls (st) := by
  obtain ⟨p, e, s, m, args, below, meth, c, A, Q, rfl, hx, hb, hml, hown, hts, hK, hN, hA, hnm⟩ := M
  intro H locs la hP hD hS hl
  refine lv_lload hx hb d (lo_at hl h) ?_
  exact k H locs la hP hD hS hl
theorem Mach.lloadn (M : Mach l own nm b nL R G V) {j : Fin 4} (i : Nat) {x : Int64} (hi : (j : Nat) = i) (h : ls[i]? = some (some (.long x))) (d : decode b pc = .ok (.lload_n j, 1)) (k : V kc ks (pc + 1) ws ls (.long x :: st)) : V kc ks pc ws ls (st) := by
  obtain ⟨p, e, s, m, args, below, meth, c, A, Q, rfl, hx, hb, hml, hown, hts, hK, hN, hA, hnm⟩ := M
  intro H locs la hP hD hS hl
  refine lv_lload_n hx hb d hi (lo_at hl h) ?_
  exact k H locs la hP hD hS hl
theorem Mach.aload (M : Mach l own nm b nL R G V) {i : Nat} {x : Nat} (h : ls[i]? = some (some (.ref x))) (d : decode b pc = .ok (.aload i, 2)) (k : V kc ks (pc + 2) ws ls (.ref x :: st)) : V kc ks pc ws ls (st) := by
  obtain ⟨p, e, s, m, args, below, meth, c, A, Q, rfl, hx, hb, hml, hown, hts, hK, hN, hA, hnm⟩ := M
  intro H locs la hP hD hS hl
  refine lv_aload hx hb d (lo_at hl h) ?_
  exact k H locs la hP hD hS hl
theorem Mach.aloadn (M : Mach l own nm b nL R G V) {j : Fin 4} (i : Nat) {x : Nat} (hi : (j : Nat) = i) (h : ls[i]? = some (some (.ref x))) (d : decode b pc = .ok (.aload_n j, 1)) (k : V kc ks (pc + 1) ws ls (.ref x :: st)) : V kc ks pc ws ls (st) := by
  obtain ⟨p, e, s, m, args, below, meth, c, A, Q, rfl, hx, hb, hml, hown, hts, hK, hN, hA, hnm⟩ := M
  intro H locs la hP hD hS hl
  refine lv_aload_n hx hb d hi (lo_at hl h) ?_
  exact k H locs la hP hD hS hl
theorem Mach.istore (M : Mach l own nm b nL R G V) {i : Nat} {x : Int32} (h : i < ls.length) (hp : lcat ls i = true) (d : decode b pc = .ok (.istore i, 2)) (k : V kc ks (pc + 2) ws (ls.set i (some (.int x))) st) : V kc ks pc ws ls (.int x :: st) := by
  obtain ⟨p, e, s, m, args, below, meth, c, A, Q, rfl, hx, hb, hml, hown, hts, hK, hN, hA, hnm⟩ := M
  intro H locs la hP hD hS hl
  refine lv_istore hx hb d hl h rfl (fun la2 hl2 => ?_)
  exact k H locs la2 hP hD hS (lo_after h hp hl2)
theorem Mach.istoren (M : Mach l own nm b nL R G V) {j : Fin 4} (i : Nat) (hi : (j : Nat) = i) {x : Int32} (h : i < ls.length) (hp : lcat ls i = true) (d : decode b pc = .ok (.istore_n j, 1)) (k : V kc ks (pc + 1) ws (ls.set i (some (.int x))) st) : V kc ks pc ws ls (.int x :: st) := by
  obtain ⟨p, e, s, m, args, below, meth, c, A, Q, rfl, hx, hb, hml, hown, hts, hK, hN, hA, hnm⟩ := M
  intro H locs la hP hD hS hl
  refine lv_istore_n hx hb d hi hl h rfl (fun la2 hl2 => ?_)
  exact k H locs la2 hP hD hS (lo_after h hp hl2)
theorem Mach.astore (M : Mach l own nm b nL R G V) {i : Nat} {x : Nat} (h : i < ls.length) (hp : lcat ls i = true) (d : decode b pc = .ok (.astore i, 2)) (k : V kc ks (pc + 2) ws (ls.set i (some (.ref x))) st) : V kc ks pc ws ls (.ref x :: st) := by
  obtain ⟨p, e, s, m, args, below, meth, c, A, Q, rfl, hx, hb, hml, hown, hts, hK, hN, hA, hnm⟩ := M
  intro H locs la hP hD hS hl
  refine lv_astore hx hb d hl h rfl (fun la2 hl2 => ?_)
  exact k H locs la2 hP hD hS (lo_after h hp hl2)
theorem Mach.astoren (M : Mach l own nm b nL R G V) {j : Fin 4} (i : Nat) (hi : (j : Nat) = i) {x : Nat} (h : i < ls.length) (hp : lcat ls i = true) (d : decode b pc = .ok (.astore_n j, 1)) (k : V kc ks (pc + 1) ws (ls.set i (some (.ref x))) st) : V kc ks pc ws ls (.ref x :: st) := by
  obtain ⟨p, e, s, m, args, below, meth, c, A, Q, rfl, hx, hb, hml, hown, hts, hK, hN, hA, hnm⟩ := M
  intro H locs la hP hD hS hl
  refine lv_astore_n hx hb d hi hl h rfl (fun la2 hl2 => ?_)
  exact k H locs la2 hP hD hS (lo_after h hp hl2)
theorem Mach.lstore (M : Mach l own nm b nL R G V) {i : Nat} {x : Int64} (h : i + 1 < ls.length) (hp : lcat ls i = true) (d : decode b pc = .ok (.lstore i, 2)) (k : V kc ks (pc + 2) ws ((ls.set i (some (.long x))).set (i + 1) none) st) : V kc ks pc ws ls (.long x :: st) := by
  obtain ⟨p, e, s, m, args, below, meth, c, A, Q, rfl, hx, hb, hml, hown, hts, hK, hN, hA, hnm⟩ := M
  intro H locs la hP hD hS hl
  refine lv_lstore hx hb d hl h rfl (fun la2 hl2 => ?_)
  exact k H locs la2 hP hD hS (lo_after2 h hp hl2)
theorem Mach.lstoren (M : Mach l own nm b nL R G V) {j : Fin 4} (i : Nat) (hi : (j : Nat) = i) {x : Int64} (h : i + 1 < ls.length) (hp : lcat ls i = true) (d : decode b pc = .ok (.lstore_n j, 1)) (k : V kc ks (pc + 1) ws ((ls.set i (some (.long x))).set (i + 1) none) st) : V kc ks pc ws ls (.long x :: st) := by
  obtain ⟨p, e, s, m, args, below, meth, c, A, Q, rfl, hx, hb, hml, hown, hts, hK, hN, hA, hnm⟩ := M
  intro H locs la hP hD hS hl
  refine lv_lstore_n hx hb d hi hl h rfl (fun la2 hl2 => ?_)
  exact k H locs la2 hP hD hS (lo_after2 h hp hl2)
theorem Mach.iinc (M : Mach l own nm b nL R G V) {i : Nat} {n : Int} {x : Int} (h : ls[i]? = some (some (.int (iI x)))) (hp : lcat ls i = true) (d : decode b pc = .ok (.iinc i n, 3)) (k : V kc ks (pc + 3) ws (ls.set i (some (.int (iI (x + n))))) st) : V kc ks pc ws ls st := by
  obtain ⟨p, e, s, m, args, below, meth, c, A, Q, rfl, hx, hb, hml, hown, hts, hK, hN, hA, hnm⟩ := M
  intro H locs la hP hD hS hl
  have hi : i < ls.length := (List.getElem?_eq_some_iff.mp h).1
  obtain ⟨q, hq⟩ := List.getElem?_of_mem ((lo_mem ls 0 i _).mpr ⟨i, by omega, h⟩)
  refine lv_iinc (v := iI (x + n)) hx hb d hl hq (iI_add x n) hi rfl (fun la2 hl2 => ?_)
  exact k H locs la2 hP hD hS (lo_after hi hp hl2)
theorem Mach.iadd (M : Mach l own nm b nL R G V) {x y : Int} (d : decode b pc = .ok (.iadd, 1)) (k : V kc ks (pc + 1) ws ls (.int (iI (x + y)) :: st)) : V kc ks pc ws ls (.int (iI y) :: .int (iI x) :: st) := by
  obtain ⟨p, e, s, m, args, below, meth, c, A, Q, rfl, hx, hb, hml, hown, hts, hK, hN, hA, hnm⟩ := M
  intro H locs la hP hD hS hl
  refine lv_iadd hx hb d ?_
  rw [iI_add]
  exact k H locs la hP hD hS hl
theorem Mach.isub (M : Mach l own nm b nL R G V) {x y : Int} (d : decode b pc = .ok (.isub, 1)) (k : V kc ks (pc + 1) ws ls (.int (iI (x - y)) :: st)) : V kc ks pc ws ls (.int (iI y) :: .int (iI x) :: st) := by
  obtain ⟨p, e, s, m, args, below, meth, c, A, Q, rfl, hx, hb, hml, hown, hts, hK, hN, hA, hnm⟩ := M
  intro H locs la hP hD hS hl
  refine lv_isub hx hb d ?_
  rw [iI_sub]
  exact k H locs la hP hD hS hl
theorem Mach.imul (M : Mach l own nm b nL R G V) {x y : Int} (d : decode b pc = .ok (.imul, 1)) (k : V kc ks (pc + 1) ws ls (.int (iI (x * y)) :: st)) : V kc ks pc ws ls (.int (iI y) :: .int (iI x) :: st) := by
  obtain ⟨p, e, s, m, args, below, meth, c, A, Q, rfl, hx, hb, hml, hown, hts, hK, hN, hA, hnm⟩ := M
  intro H locs la hP hD hS hl
  refine lv_imul hx hb d ?_
  rw [iI_mul]
  exact k H locs la hP hD hS hl
theorem Mach.ladd (M : Mach l own nm b nL R G V) {x y : Int} (d : decode b pc = .ok (.ladd, 1)) (k : V kc ks (pc + 1) ws ls (.long (lI (x + y)) :: st)) : V kc ks pc ws ls (.long (lI y) :: .long (lI x) :: st) := by
  obtain ⟨p, e, s, m, args, below, meth, c, A, Q, rfl, hx, hb, hml, hown, hts, hK, hN, hA, hnm⟩ := M
  intro H locs la hP hD hS hl
  refine lv_ladd hx hb d ?_
  rw [lI_add]
  exact k H locs la hP hD hS hl
theorem Mach.lsub (M : Mach l own nm b nL R G V) {x y : Int} (d : decode b pc = .ok (.lsub, 1)) (k : V kc ks (pc + 1) ws ls (.long (lI (x - y)) :: st)) : V kc ks pc ws ls (.long (lI y) :: .long (lI x) :: st) := by
  obtain ⟨p, e, s, m, args, below, meth, c, A, Q, rfl, hx, hb, hml, hown, hts, hK, hN, hA, hnm⟩ := M
  intro H locs la hP hD hS hl
  refine lv_lsub hx hb d ?_
  rw [lI_sub]
  exact k H locs la hP hD hS hl
theorem Mach.lmul (M : Mach l own nm b nL R G V) {x y : Int} (d : decode b pc = .ok (.lmul, 1)) (k : V kc ks (pc + 1) ws ls (.long (lI (x * y)) :: st)) : V kc ks pc ws ls (.long (lI y) :: .long (lI x) :: st) := by
  obtain ⟨p, e, s, m, args, below, meth, c, A, Q, rfl, hx, hb, hml, hown, hts, hK, hN, hA, hnm⟩ := M
  intro H locs la hP hD hS hl
  refine lv_lmul hx hb d ?_
  rw [lI_mul]
  exact k H locs la hP hD hS hl
theorem Mach.ineg (M : Mach l own nm b nL R G V) {x : Int} (d : decode b pc = .ok (.ineg, 1)) (k : V kc ks (pc + 1) ws ls (.int (iI (-x)) :: st)) : V kc ks pc ws ls (.int (iI x) :: st) := by
  obtain ⟨p, e, s, m, args, below, meth, c, A, Q, rfl, hx, hb, hml, hown, hts, hK, hN, hA, hnm⟩ := M
  intro H locs la hP hD hS hl
  refine lv_ineg hx hb d ?_
  rw [iI_neg]
  exact k H locs la hP hD hS hl
theorem Mach.idiv (M : Mach l own nm b nL R G V) {x y : Int} (h1 : 0 ≤ x ∧ x < 2147483648) (h2 : 0 < y ∧ y < 2147483648) (d : decode b pc = .ok (.idiv, 1)) (k : V kc ks (pc + 1) ws ls (.int (iI (x / y)) :: st)) : V kc ks pc ws ls (.int (iI y) :: .int (iI x) :: st) := by
  obtain ⟨p, e, s, m, args, below, meth, c, A, Q, rfl, hx, hb, hml, hown, hts, hK, hN, hA, hnm⟩ := M
  intro H locs la hP hD hS hl
  refine lv_idiv hx hb d (iI_ne0 (by omega) ⟨by omega, by omega⟩) ?_
  rw [iI_div h1.1 h1.2 h2.1 h2.2]
  exact k H locs la hP hD hS hl
theorem Mach.irem (M : Mach l own nm b nL R G V) {x y : Int} (h1 : 0 ≤ x ∧ x < 2147483648) (h2 : 0 < y ∧ y < 2147483648) (d : decode b pc = .ok (.irem, 1)) (k : V kc ks (pc + 1) ws ls (.int (iI (x % y)) :: st)) : V kc ks pc ws ls (.int (iI y) :: .int (iI x) :: st) := by
  obtain ⟨p, e, s, m, args, below, meth, c, A, Q, rfl, hx, hb, hml, hown, hts, hK, hN, hA, hnm⟩ := M
  intro H locs la hP hD hS hl
  refine lv_irem hx hb d (iI_ne0 (by omega) ⟨by omega, by omega⟩) ?_
  rw [iI_rem h1.1 h1.2 h2.1 h2.2]
  exact k H locs la hP hD hS hl
theorem Mach.ldiv (M : Mach l own nm b nL R G V) {x y : Int} (h1 : 0 ≤ x ∧ x < 9223372036854775808) (h2 : 0 < y ∧ y < 9223372036854775808) (d : decode b pc = .ok (.ldiv, 1)) (k : V kc ks (pc + 1) ws ls (.long (lI (x / y)) :: st)) : V kc ks pc ws ls (.long (lI y) :: .long (lI x) :: st) := by
  obtain ⟨p, e, s, m, args, below, meth, c, A, Q, rfl, hx, hb, hml, hown, hts, hK, hN, hA, hnm⟩ := M
  intro H locs la hP hD hS hl
  refine lv_ldiv hx hb d (lI_ne0 (by omega) ⟨by omega, by omega⟩) ?_
  rw [lI_div h1.1 h1.2 h2.1 h2.2]
  exact k H locs la hP hD hS hl
theorem Mach.lrem (M : Mach l own nm b nL R G V) {x y : Int} (h1 : 0 ≤ x ∧ x < 9223372036854775808) (h2 : 0 < y ∧ y < 9223372036854775808) (d : decode b pc = .ok (.lrem, 1)) (k : V kc ks (pc + 1) ws ls (.long (lI (x % y)) :: st)) : V kc ks pc ws ls (.long (lI y) :: .long (lI x) :: st) := by
  obtain ⟨p, e, s, m, args, below, meth, c, A, Q, rfl, hx, hb, hml, hown, hts, hK, hN, hA, hnm⟩ := M
  intro H locs la hP hD hS hl
  refine lv_lrem hx hb d (lI_ne0 (by omega) ⟨by omega, by omega⟩) ?_
  rw [lI_rem h1.1 h1.2 h2.1 h2.2]
  exact k H locs la hP hD hS hl
theorem Mach.iand (M : Mach l own nm b nL R G V) {x y : Int32} {z : Int} (h : x &&& y = iI z) (d : decode b pc = .ok (.iand, 1)) (k : V kc ks (pc + 1) ws ls (.int (iI z) :: st)) : V kc ks pc ws ls (.int y :: .int x :: st) := by
  obtain ⟨p, e, s, m, args, below, meth, c, A, Q, rfl, hx, hb, hml, hown, hts, hK, hN, hA, hnm⟩ := M
  intro H locs la hP hD hS hl
  refine lv_iand hx hb d ?_
  rw [h]
  exact k H locs la hP hD hS hl
theorem Mach.ior (M : Mach l own nm b nL R G V) {x y : Int32} {z : Int} (h : x ||| y = iI z) (d : decode b pc = .ok (.ior, 1)) (k : V kc ks (pc + 1) ws ls (.int (iI z) :: st)) : V kc ks pc ws ls (.int y :: .int x :: st) := by
  obtain ⟨p, e, s, m, args, below, meth, c, A, Q, rfl, hx, hb, hml, hown, hts, hK, hN, hA, hnm⟩ := M
  intro H locs la hP hD hS hl
  refine lv_ior hx hb d ?_
  rw [h]
  exact k H locs la hP hD hS hl
theorem Mach.ixor (M : Mach l own nm b nL R G V) {x y : Int32} {z : Int} (h : x ^^^ y = iI z) (d : decode b pc = .ok (.ixor, 1)) (k : V kc ks (pc + 1) ws ls (.int (iI z) :: st)) : V kc ks pc ws ls (.int y :: .int x :: st) := by
  obtain ⟨p, e, s, m, args, below, meth, c, A, Q, rfl, hx, hb, hml, hown, hts, hK, hN, hA, hnm⟩ := M
  intro H locs la hP hD hS hl
  refine lv_ixor hx hb d ?_
  rw [h]
  exact k H locs la hP hD hS hl
theorem Mach.land (M : Mach l own nm b nL R G V) {x y : Int64} {z : Int} (h : x &&& y = lI z) (d : decode b pc = .ok (.land, 1)) (k : V kc ks (pc + 1) ws ls (.long (lI z) :: st)) : V kc ks pc ws ls (.long y :: .long x :: st) := by
  obtain ⟨p, e, s, m, args, below, meth, c, A, Q, rfl, hx, hb, hml, hown, hts, hK, hN, hA, hnm⟩ := M
  intro H locs la hP hD hS hl
  refine lv_land hx hb d ?_
  rw [h]
  exact k H locs la hP hD hS hl
theorem Mach.lor (M : Mach l own nm b nL R G V) {x y : Int64} {z : Int} (h : x ||| y = lI z) (d : decode b pc = .ok (.lor, 1)) (k : V kc ks (pc + 1) ws ls (.long (lI z) :: st)) : V kc ks pc ws ls (.long y :: .long x :: st) := by
  obtain ⟨p, e, s, m, args, below, meth, c, A, Q, rfl, hx, hb, hml, hown, hts, hK, hN, hA, hnm⟩ := M
  intro H locs la hP hD hS hl
  refine lv_lor hx hb d ?_
  rw [h]
  exact k H locs la hP hD hS hl
theorem Mach.lxor (M : Mach l own nm b nL R G V) {x y : Int64} {z : Int} (h : x ^^^ y = lI z) (d : decode b pc = .ok (.lxor, 1)) (k : V kc ks (pc + 1) ws ls (.long (lI z) :: st)) : V kc ks pc ws ls (.long y :: .long x :: st) := by
  obtain ⟨p, e, s, m, args, below, meth, c, A, Q, rfl, hx, hb, hml, hown, hts, hK, hN, hA, hnm⟩ := M
  intro H locs la hP hD hS hl
  refine lv_lxor hx hb d ?_
  rw [h]
  exact k H locs la hP hD hS hl
theorem Mach.ishl (M : Mach l own nm b nL R G V) {x y : Int32} {z : Int} (h : x <<< (y &&& 31) = iI z) (d : decode b pc = .ok (.ishl, 1)) (k : V kc ks (pc + 1) ws ls (.int (iI z) :: st)) : V kc ks pc ws ls (.int y :: .int x :: st) := by
  obtain ⟨p, e, s, m, args, below, meth, c, A, Q, rfl, hx, hb, hml, hown, hts, hK, hN, hA, hnm⟩ := M
  intro H locs la hP hD hS hl
  refine lv_ishl hx hb d ?_
  rw [h]
  exact k H locs la hP hD hS hl
theorem Mach.ishr (M : Mach l own nm b nL R G V) {x y : Int32} {z : Int} (h : x >>> (y &&& 31) = iI z) (d : decode b pc = .ok (.ishr, 1)) (k : V kc ks (pc + 1) ws ls (.int (iI z) :: st)) : V kc ks pc ws ls (.int y :: .int x :: st) := by
  obtain ⟨p, e, s, m, args, below, meth, c, A, Q, rfl, hx, hb, hml, hown, hts, hK, hN, hA, hnm⟩ := M
  intro H locs la hP hD hS hl
  refine lv_ishr hx hb d ?_
  rw [h]
  exact k H locs la hP hD hS hl
theorem Mach.iushr (M : Mach l own nm b nL R G V) {x y : Int32} {z : Int} (h : (x.toUInt32 >>> (y.toUInt32 &&& Int32.toUInt32 31)).toInt32 = iI z) (d : decode b pc = .ok (.iushr, 1)) (k : V kc ks (pc + 1) ws ls (.int (iI z) :: st)) : V kc ks pc ws ls (.int y :: .int x :: st) := by
  obtain ⟨p, e, s, m, args, below, meth, c, A, Q, rfl, hx, hb, hml, hown, hts, hK, hN, hA, hnm⟩ := M
  intro H locs la hP hD hS hl
  refine lv_iushr (v := iI z) hx hb d h ?_
  exact k H locs la hP hD hS hl
theorem Mach.lushr (M : Mach l own nm b nL R G V) {x : Int64} {y : Int32} {z : Int} (h : (x.toUInt64 >>> (y.toInt64.toUInt64 &&& Int64.toUInt64 63)).toInt64 = lI z) (d : decode b pc = .ok (.lushr, 1)) (k : V kc ks (pc + 1) ws ls (.long (lI z) :: st)) : V kc ks pc ws ls (.int y :: .long x :: st) := by
  obtain ⟨p, e, s, m, args, below, meth, c, A, Q, rfl, hx, hb, hml, hown, hts, hK, hN, hA, hnm⟩ := M
  intro H locs la hP hD hS hl
  refine lv_lushr (v := lI z) hx hb d h ?_
  exact k H locs la hP hD hS hl
theorem Mach.lshl (M : Mach l own nm b nL R G V) {x : Int64} {y : Int32} {z : Int} (h : x <<< (y.toInt64 &&& 63) = lI z) (d : decode b pc = .ok (.lshl, 1)) (k : V kc ks (pc + 1) ws ls (.long (lI z) :: st)) : V kc ks pc ws ls (.int y :: .long x :: st) := by
  obtain ⟨p, e, s, m, args, below, meth, c, A, Q, rfl, hx, hb, hml, hown, hts, hK, hN, hA, hnm⟩ := M
  intro H locs la hP hD hS hl
  refine lv_lshl (v := lI z) hx hb d h ?_
  exact k H locs la hP hD hS hl
theorem Mach.lshr (M : Mach l own nm b nL R G V) {x : Int64} {y : Int32} {z : Int} (h : x >>> (y.toInt64 &&& 63) = lI z) (d : decode b pc = .ok (.lshr, 1)) (k : V kc ks (pc + 1) ws ls (.long (lI z) :: st)) : V kc ks pc ws ls (.int y :: .long x :: st) := by
  obtain ⟨p, e, s, m, args, below, meth, c, A, Q, rfl, hx, hb, hml, hown, hts, hK, hN, hA, hnm⟩ := M
  intro H locs la hP hD hS hl
  refine lv_lshr (v := lI z) hx hb d h ?_
  exact k H locs la hP hD hS hl
theorem Mach.i2l (M : Mach l own nm b nL R G V) {x : Int} (h : InR x) (d : decode b pc = .ok (.i2l, 1)) (k : V kc ks (pc + 1) ws ls (.long (lI x) :: st)) : V kc ks pc ws ls (.int (iI x) :: st) := by
  obtain ⟨p, e, s, m, args, below, meth, c, A, Q, rfl, hx, hb, hml, hown, hts, hK, hN, hA, hnm⟩ := M
  intro H locs la hP hD hS hl
  refine lv_i2l (v := lI x) hx hb d (iI_l h) ?_
  exact k H locs la hP hD hS hl
theorem Mach.l2i (M : Mach l own nm b nL R G V) {x : Int} (d : decode b pc = .ok (.l2i, 1)) (k : V kc ks (pc + 1) ws ls (.int (iI x) :: st)) : V kc ks pc ws ls (.long (lI x) :: st) := by
  obtain ⟨p, e, s, m, args, below, meth, c, A, Q, rfl, hx, hb, hml, hown, hts, hK, hN, hA, hnm⟩ := M
  intro H locs la hP hD hS hl
  refine lv_l2i (v := iI x) hx hb d (lI_i x) ?_
  exact k H locs la hP hD hS hl
theorem Mach.i2b (M : Mach l own nm b nL R G V) {x : Int32} {z : Int} (h : x.toInt8.toInt32 = iI z) (d : decode b pc = .ok (.i2b, 1)) (k : V kc ks (pc + 1) ws ls (.int (iI z) :: st)) : V kc ks pc ws ls (.int x :: st) := by
  obtain ⟨p, e, s, m, args, below, meth, c, A, Q, rfl, hx, hb, hml, hown, hts, hK, hN, hA, hnm⟩ := M
  intro H locs la hP hD hS hl
  refine lv_i2b (v := iI z) hx hb d h ?_
  exact k H locs la hP hD hS hl
theorem Mach.lcmp (M : Mach l own nm b nL R G V) {x y : Int} (h1 : InL x) (h2 : InL y) (d : decode b pc = .ok (.lcmp, 1)) (k : V kc ks (pc + 1) ws ls (.int (iI (if x < y then -1 else if x = y then 0 else 1)) :: st)) : V kc ks pc ws ls (.long (lI y) :: .long (lI x) :: st) := by
  obtain ⟨p, e, s, m, args, below, meth, c, A, Q, rfl, hx, hb, hml, hown, hts, hK, hN, hA, hnm⟩ := M
  intro H locs la hP hD hS hl
  refine W.lcmp hx hb d ?_
  rw [lI_cmp h1 h2]
  exact k H locs la hP hD hS hl
theorem Mach.dup (M : Mach l own nm b nL R G V) {v : Value} (h : v.category = 1) (d : decode b pc = .ok (.dup, 1)) (k : V kc ks (pc + 1) ws ls (v :: v :: st)) : V kc ks pc ws ls (v :: st) := by
  obtain ⟨p, e, s, m, args, below, meth, c, A, Q, rfl, hx, hb, hml, hown, hts, hK, hN, hA, hnm⟩ := M
  intro H locs la hP hD hS hl
  refine lv_dup hx hb d h ?_
  exact k H locs la hP hD hS hl
theorem Mach.dupx1 (M : Mach l own nm b nL R G V) {v w : Value} (h : v.category = 1) (h2 : w.category = 1) (d : decode b pc = .ok (.dup_x1, 1)) (k : V kc ks (pc + 1) ws ls (v :: w :: v :: st)) : V kc ks pc ws ls (v :: w :: st) := by
  obtain ⟨p, e, s, m, args, below, meth, c, A, Q, rfl, hx, hb, hml, hown, hts, hK, hN, hA, hnm⟩ := M
  intro H locs la hP hD hS hl
  refine lv_dup_x1 hx hb d h h2 ?_
  exact k H locs la hP hD hS hl
theorem Mach.dup2 (M : Mach l own nm b nL R G V) {v w : Value} (h : v.category = 1) (h2 : w.category = 1) (d : decode b pc = .ok (.dup2, 1)) (k : V kc ks (pc + 1) ws ls (v :: w :: v :: w :: st)) : V kc ks pc ws ls (v :: w :: st) := by
  obtain ⟨p, e, s, m, args, below, meth, c, A, Q, rfl, hx, hb, hml, hown, hts, hK, hN, hA, hnm⟩ := M
  intro H locs la hP hD hS hl
  refine lv_dup2_11 hx hb d h h2 ?_
  exact k H locs la hP hD hS hl
theorem Mach.pop (M : Mach l own nm b nL R G V) {v : Value} (h : v.category = 1) (d : decode b pc = .ok (.pop, 1)) (k : V kc ks (pc + 1) ws ls (st)) : V kc ks pc ws ls (v :: st) := by
  obtain ⟨p, e, s, m, args, below, meth, c, A, Q, rfl, hx, hb, hml, hown, hts, hK, hN, hA, hnm⟩ := M
  intro H locs la hP hD hS hl
  refine lv_pop hx hb d h ?_
  exact k H locs la hP hD hS hl
theorem Mach.goto (M : Mach l own nm b nL R G V) {off : Int} {tgt : Nat} (d : decode b pc = .ok (.goto off, 3)) (ht : (pc : Int) + off = (tgt : Int)) (k : V kc ks tgt ws ls st) : V kc ks pc ws ls st := by
  obtain ⟨p, e, s, m, args, below, meth, c, A, Q, rfl, hx, hb, hml, hown, hts, hK, hN, hA, hnm⟩ := M
  intro H locs la hP hD hS hl
  exact lv_goto hx hb d ht (k H locs la hP hD hS hl)
theorem Mach.icmp_eq (M : Mach l own nm b nL R G V) {x y : Int} {off : Int} {tgt : Nat} (d : decode b pc = .ok (.if_icmp .eq off, 3)) (ht : (pc : Int) + off = (tgt : Int)) (h1 : InR x) (h2 : InR y) (kt : x = y → V kc ks tgt ws ls st) (kf : ¬ x = y → V kc ks (pc + 3) ws ls st) : V kc ks pc ws ls (.int (iI y) :: .int (iI x) :: st) := by
  obtain ⟨p, e, s, m, args, below, meth, c, A, Q, rfl, hx, hb, hml, hown, hts, hK, hN, hA, hnm⟩ := M
  intro H locs la hP hD hS hl
  refine lv_icmp_eq hx hb d ht (fun h => kt ?_ H locs la hP hD hS hl) (fun h => kf ?_ H locs la hP hD hS hl)
  · first | exact (iI_eq h1 h2).mp h | (have h3 := iI_lt h1 h2; have h4 := iI_lt h2 h1; have h5 := iI_le h1 h2; have h6 := iI_le h2 h1; have h7 := iI_eq h1 h2; simp only [h3, h4, h5, h6, h7, ge_iff_le, gt_iff_lt] at h; omega)
  · have h3 := iI_lt h1 h2; have h4 := iI_lt h2 h1; have h5 := iI_le h1 h2; have h6 := iI_le h2 h1; have h7 := iI_eq h1 h2
    simp only [h3, h4, h5, h6, h7, ge_iff_le, gt_iff_lt] at h
    omega
theorem Mach.if_eq (M : Mach l own nm b nL R G V) {x : Int} {off : Int} {tgt : Nat} (d : decode b pc = .ok (.ifCond .eq off, 3)) (ht : (pc : Int) + off = (tgt : Int)) (h1 : InR x) (kt : x = 0 → V kc ks tgt ws ls st) (kf : ¬ x = 0 → V kc ks (pc + 3) ws ls st) : V kc ks pc ws ls (.int (iI x) :: st) := by
  obtain ⟨p, e, s, m, args, below, meth, c, A, Q, rfl, hx, hb, hml, hown, hts, hK, hN, hA, hnm⟩ := M
  intro H locs la hP hD hS hl
  have h2 : InR 0 := ⟨by omega, by omega⟩
  have h3 := iI_lt h1 h2
  have h4 := iI_lt h2 h1
  have h5 := iI_le h1 h2
  have h6 := iI_le h2 h1
  have h7 := iI_eq h1 h2
  rw [iI_0] at h3 h4 h5 h6 h7
  refine lv_if_eq hx hb d ht (fun h => kt ?_ H locs la hP hD hS hl) (fun h => kf ?_ H locs la hP hD hS hl)
  · simp only [h3, h4, h5, h6, h7, ge_iff_le, gt_iff_lt] at h
    omega
  · simp only [h3, h4, h5, h6, h7, ge_iff_le, gt_iff_lt] at h
    omega
theorem Mach.icmp_ne (M : Mach l own nm b nL R G V) {x y : Int} {off : Int} {tgt : Nat} (d : decode b pc = .ok (.if_icmp .ne off, 3)) (ht : (pc : Int) + off = (tgt : Int)) (h1 : InR x) (h2 : InR y) (kt : ¬ x = y → V kc ks tgt ws ls st) (kf : x = y → V kc ks (pc + 3) ws ls st) : V kc ks pc ws ls (.int (iI y) :: .int (iI x) :: st) := by
  obtain ⟨p, e, s, m, args, below, meth, c, A, Q, rfl, hx, hb, hml, hown, hts, hK, hN, hA, hnm⟩ := M
  intro H locs la hP hD hS hl
  refine lv_icmp_ne hx hb d ht (fun h => kt ?_ H locs la hP hD hS hl) (fun h => kf ?_ H locs la hP hD hS hl)
  · first | exact (not_congr (iI_eq h1 h2)).mp h | (have h3 := iI_lt h1 h2; have h4 := iI_lt h2 h1; have h5 := iI_le h1 h2; have h6 := iI_le h2 h1; have h7 := iI_eq h1 h2; simp only [h3, h4, h5, h6, h7, ge_iff_le, gt_iff_lt] at h; omega)
  · have h3 := iI_lt h1 h2; have h4 := iI_lt h2 h1; have h5 := iI_le h1 h2; have h6 := iI_le h2 h1; have h7 := iI_eq h1 h2
    simp only [h3, h4, h5, h6, h7, ge_iff_le, gt_iff_lt] at h
    omega
theorem Mach.if_ne (M : Mach l own nm b nL R G V) {x : Int} {off : Int} {tgt : Nat} (d : decode b pc = .ok (.ifCond .ne off, 3)) (ht : (pc : Int) + off = (tgt : Int)) (h1 : InR x) (kt : ¬ x = 0 → V kc ks tgt ws ls st) (kf : x = 0 → V kc ks (pc + 3) ws ls st) : V kc ks pc ws ls (.int (iI x) :: st) := by
  obtain ⟨p, e, s, m, args, below, meth, c, A, Q, rfl, hx, hb, hml, hown, hts, hK, hN, hA, hnm⟩ := M
  intro H locs la hP hD hS hl
  have h2 : InR 0 := ⟨by omega, by omega⟩
  have h3 := iI_lt h1 h2
  have h4 := iI_lt h2 h1
  have h5 := iI_le h1 h2
  have h6 := iI_le h2 h1
  have h7 := iI_eq h1 h2
  rw [iI_0] at h3 h4 h5 h6 h7
  refine lv_if_ne hx hb d ht (fun h => kt ?_ H locs la hP hD hS hl) (fun h => kf ?_ H locs la hP hD hS hl)
  · simp only [h3, h4, h5, h6, h7, ge_iff_le, gt_iff_lt] at h
    omega
  · simp only [h3, h4, h5, h6, h7, ge_iff_le, gt_iff_lt] at h
    omega
theorem Mach.icmp_lt (M : Mach l own nm b nL R G V) {x y : Int} {off : Int} {tgt : Nat} (d : decode b pc = .ok (.if_icmp .lt off, 3)) (ht : (pc : Int) + off = (tgt : Int)) (h1 : InR x) (h2 : InR y) (kt : x < y → V kc ks tgt ws ls st) (kf : y ≤ x → V kc ks (pc + 3) ws ls st) : V kc ks pc ws ls (.int (iI y) :: .int (iI x) :: st) := by
  obtain ⟨p, e, s, m, args, below, meth, c, A, Q, rfl, hx, hb, hml, hown, hts, hK, hN, hA, hnm⟩ := M
  intro H locs la hP hD hS hl
  refine lv_icmp_lt hx hb d ht (fun h => kt ?_ H locs la hP hD hS hl) (fun h => kf ?_ H locs la hP hD hS hl)
  · first | exact (iI_lt h1 h2).mp h | (have h3 := iI_lt h1 h2; have h4 := iI_lt h2 h1; have h5 := iI_le h1 h2; have h6 := iI_le h2 h1; have h7 := iI_eq h1 h2; simp only [h3, h4, h5, h6, h7, ge_iff_le, gt_iff_lt] at h; omega)
  · have h3 := iI_lt h1 h2; have h4 := iI_lt h2 h1; have h5 := iI_le h1 h2; have h6 := iI_le h2 h1; have h7 := iI_eq h1 h2
    simp only [h3, h4, h5, h6, h7, ge_iff_le, gt_iff_lt] at h
    omega
theorem Mach.if_lt (M : Mach l own nm b nL R G V) {x : Int} {off : Int} {tgt : Nat} (d : decode b pc = .ok (.ifCond .lt off, 3)) (ht : (pc : Int) + off = (tgt : Int)) (h1 : InR x) (kt : x < 0 → V kc ks tgt ws ls st) (kf : 0 ≤ x → V kc ks (pc + 3) ws ls st) : V kc ks pc ws ls (.int (iI x) :: st) := by
  obtain ⟨p, e, s, m, args, below, meth, c, A, Q, rfl, hx, hb, hml, hown, hts, hK, hN, hA, hnm⟩ := M
  intro H locs la hP hD hS hl
  have h2 : InR 0 := ⟨by omega, by omega⟩
  have h3 := iI_lt h1 h2
  have h4 := iI_lt h2 h1
  have h5 := iI_le h1 h2
  have h6 := iI_le h2 h1
  have h7 := iI_eq h1 h2
  rw [iI_0] at h3 h4 h5 h6 h7
  refine lv_if_lt hx hb d ht (fun h => kt ?_ H locs la hP hD hS hl) (fun h => kf ?_ H locs la hP hD hS hl)
  · simp only [h3, h4, h5, h6, h7, ge_iff_le, gt_iff_lt] at h
    omega
  · simp only [h3, h4, h5, h6, h7, ge_iff_le, gt_iff_lt] at h
    omega
theorem Mach.icmp_ge (M : Mach l own nm b nL R G V) {x y : Int} {off : Int} {tgt : Nat} (d : decode b pc = .ok (.if_icmp .ge off, 3)) (ht : (pc : Int) + off = (tgt : Int)) (h1 : InR x) (h2 : InR y) (kt : y ≤ x → V kc ks tgt ws ls st) (kf : x < y → V kc ks (pc + 3) ws ls st) : V kc ks pc ws ls (.int (iI y) :: .int (iI x) :: st) := by
  obtain ⟨p, e, s, m, args, below, meth, c, A, Q, rfl, hx, hb, hml, hown, hts, hK, hN, hA, hnm⟩ := M
  intro H locs la hP hD hS hl
  refine lv_icmp_ge hx hb d ht (fun h => kt ?_ H locs la hP hD hS hl) (fun h => kf ?_ H locs la hP hD hS hl)
  · first | exact (iI_le h2 h1).mp h | (have h3 := iI_lt h1 h2; have h4 := iI_lt h2 h1; have h5 := iI_le h1 h2; have h6 := iI_le h2 h1; have h7 := iI_eq h1 h2; simp only [h3, h4, h5, h6, h7, ge_iff_le, gt_iff_lt] at h; omega)
  · have h3 := iI_lt h1 h2; have h4 := iI_lt h2 h1; have h5 := iI_le h1 h2; have h6 := iI_le h2 h1; have h7 := iI_eq h1 h2
    simp only [h3, h4, h5, h6, h7, ge_iff_le, gt_iff_lt] at h
    omega
theorem Mach.if_ge (M : Mach l own nm b nL R G V) {x : Int} {off : Int} {tgt : Nat} (d : decode b pc = .ok (.ifCond .ge off, 3)) (ht : (pc : Int) + off = (tgt : Int)) (h1 : InR x) (kt : 0 ≤ x → V kc ks tgt ws ls st) (kf : x < 0 → V kc ks (pc + 3) ws ls st) : V kc ks pc ws ls (.int (iI x) :: st) := by
  obtain ⟨p, e, s, m, args, below, meth, c, A, Q, rfl, hx, hb, hml, hown, hts, hK, hN, hA, hnm⟩ := M
  intro H locs la hP hD hS hl
  have h2 : InR 0 := ⟨by omega, by omega⟩
  have h3 := iI_lt h1 h2
  have h4 := iI_lt h2 h1
  have h5 := iI_le h1 h2
  have h6 := iI_le h2 h1
  have h7 := iI_eq h1 h2
  rw [iI_0] at h3 h4 h5 h6 h7
  refine lv_if_ge hx hb d ht (fun h => kt ?_ H locs la hP hD hS hl) (fun h => kf ?_ H locs la hP hD hS hl)
  · simp only [h3, h4, h5, h6, h7, ge_iff_le, gt_iff_lt] at h
    omega
  · simp only [h3, h4, h5, h6, h7, ge_iff_le, gt_iff_lt] at h
    omega
theorem Mach.icmp_gt (M : Mach l own nm b nL R G V) {x y : Int} {off : Int} {tgt : Nat} (d : decode b pc = .ok (.if_icmp .gt off, 3)) (ht : (pc : Int) + off = (tgt : Int)) (h1 : InR x) (h2 : InR y) (kt : y < x → V kc ks tgt ws ls st) (kf : x ≤ y → V kc ks (pc + 3) ws ls st) : V kc ks pc ws ls (.int (iI y) :: .int (iI x) :: st) := by
  obtain ⟨p, e, s, m, args, below, meth, c, A, Q, rfl, hx, hb, hml, hown, hts, hK, hN, hA, hnm⟩ := M
  intro H locs la hP hD hS hl
  refine lv_icmp_gt hx hb d ht (fun h => kt ?_ H locs la hP hD hS hl) (fun h => kf ?_ H locs la hP hD hS hl)
  · first | exact (iI_lt h2 h1).mp h | (have h3 := iI_lt h1 h2; have h4 := iI_lt h2 h1; have h5 := iI_le h1 h2; have h6 := iI_le h2 h1; have h7 := iI_eq h1 h2; simp only [h3, h4, h5, h6, h7, ge_iff_le, gt_iff_lt] at h; omega)
  · have h3 := iI_lt h1 h2; have h4 := iI_lt h2 h1; have h5 := iI_le h1 h2; have h6 := iI_le h2 h1; have h7 := iI_eq h1 h2
    simp only [h3, h4, h5, h6, h7, ge_iff_le, gt_iff_lt] at h
    omega
theorem Mach.if_gt (M : Mach l own nm b nL R G V) {x : Int} {off : Int} {tgt : Nat} (d : decode b pc = .ok (.ifCond .gt off, 3)) (ht : (pc : Int) + off = (tgt : Int)) (h1 : InR x) (kt : 0 < x → V kc ks tgt ws ls st) (kf : x ≤ 0 → V kc ks (pc + 3) ws ls st) : V kc ks pc ws ls (.int (iI x) :: st) := by
  obtain ⟨p, e, s, m, args, below, meth, c, A, Q, rfl, hx, hb, hml, hown, hts, hK, hN, hA, hnm⟩ := M
  intro H locs la hP hD hS hl
  have h2 : InR 0 := ⟨by omega, by omega⟩
  have h3 := iI_lt h1 h2
  have h4 := iI_lt h2 h1
  have h5 := iI_le h1 h2
  have h6 := iI_le h2 h1
  have h7 := iI_eq h1 h2
  rw [iI_0] at h3 h4 h5 h6 h7
  refine lv_if_gt hx hb d ht (fun h => kt ?_ H locs la hP hD hS hl) (fun h => kf ?_ H locs la hP hD hS hl)
  · simp only [h3, h4, h5, h6, h7, ge_iff_le, gt_iff_lt] at h
    omega
  · simp only [h3, h4, h5, h6, h7, ge_iff_le, gt_iff_lt] at h
    omega
theorem Mach.icmp_le (M : Mach l own nm b nL R G V) {x y : Int} {off : Int} {tgt : Nat} (d : decode b pc = .ok (.if_icmp .le off, 3)) (ht : (pc : Int) + off = (tgt : Int)) (h1 : InR x) (h2 : InR y) (kt : x ≤ y → V kc ks tgt ws ls st) (kf : y < x → V kc ks (pc + 3) ws ls st) : V kc ks pc ws ls (.int (iI y) :: .int (iI x) :: st) := by
  obtain ⟨p, e, s, m, args, below, meth, c, A, Q, rfl, hx, hb, hml, hown, hts, hK, hN, hA, hnm⟩ := M
  intro H locs la hP hD hS hl
  refine lv_icmp_le hx hb d ht (fun h => kt ?_ H locs la hP hD hS hl) (fun h => kf ?_ H locs la hP hD hS hl)
  · first | exact (iI_le h1 h2).mp h | (have h3 := iI_lt h1 h2; have h4 := iI_lt h2 h1; have h5 := iI_le h1 h2; have h6 := iI_le h2 h1; have h7 := iI_eq h1 h2; simp only [h3, h4, h5, h6, h7, ge_iff_le, gt_iff_lt] at h; omega)
  · have h3 := iI_lt h1 h2; have h4 := iI_lt h2 h1; have h5 := iI_le h1 h2; have h6 := iI_le h2 h1; have h7 := iI_eq h1 h2
    simp only [h3, h4, h5, h6, h7, ge_iff_le, gt_iff_lt] at h
    omega
theorem Mach.if_le (M : Mach l own nm b nL R G V) {x : Int} {off : Int} {tgt : Nat} (d : decode b pc = .ok (.ifCond .le off, 3)) (ht : (pc : Int) + off = (tgt : Int)) (h1 : InR x) (kt : x ≤ 0 → V kc ks tgt ws ls st) (kf : 0 < x → V kc ks (pc + 3) ws ls st) : V kc ks pc ws ls (.int (iI x) :: st) := by
  obtain ⟨p, e, s, m, args, below, meth, c, A, Q, rfl, hx, hb, hml, hown, hts, hK, hN, hA, hnm⟩ := M
  intro H locs la hP hD hS hl
  have h2 : InR 0 := ⟨by omega, by omega⟩
  have h3 := iI_lt h1 h2
  have h4 := iI_lt h2 h1
  have h5 := iI_le h1 h2
  have h6 := iI_le h2 h1
  have h7 := iI_eq h1 h2
  rw [iI_0] at h3 h4 h5 h6 h7
  refine lv_if_le hx hb d ht (fun h => kt ?_ H locs la hP hD hS hl) (fun h => kf ?_ H locs la hP hD hS hl)
  · simp only [h3, h4, h5, h6, h7, ge_iff_le, gt_iff_lt] at h
    omega
  · simp only [h3, h4, h5, h6, h7, ge_iff_le, gt_iff_lt] at h
    omega
theorem Mach.ifnonnull (M : Mach l own nm b nL R G V) {x : Nat} {off : Int} {tgt : Nat} (d : decode b pc = .ok (.ifnonnull off, 3)) (ht : (pc : Int) + off = (tgt : Int)) (k : V kc ks tgt ws ls st) : V kc ks pc ws ls (.ref x :: st) := by
  obtain ⟨p, e, s, m, args, below, meth, c, A, Q, rfl, hx, hb, hml, hown, hts, hK, hN, hA, hnm⟩ := M
  intro H locs la hP hD hS hl
  exact lv_ifnonnull hx hb d ht (k H locs la hP hD hS hl)
theorem Mach.ifnonnullN (M : Mach l own nm b nL R G V) {off : Int} (d : decode b pc = .ok (.ifnonnull off, 3)) (k : V kc ks (pc + 3) ws ls st) : V kc ks pc ws ls (.null :: st) := by
  obtain ⟨p, e, s, m, args, below, meth, c, A, Q, rfl, hx, hb, hml, hown, hts, hK, hN, hA, hnm⟩ := M
  intro H locs la hP hD hS hl
  exact lv_ifnonnullN hx hb d (k H locs la hP hD hS hl)
theorem Mach.aconst (M : Mach l own nm b nL R G V) (d : decode b pc = .ok (.aconst_null, 1)) (k : V kc ks (pc + 1) ws ls (.null :: st)) : V kc ks pc ws ls st := by
  obtain ⟨p, e, s, m, args, below, meth, c, A, Q, rfl, hx, hb, hml, hown, hts, hK, hN, hA, hnm⟩ := M
  intro H locs la hP hD hS hl
  exact lv_null hx hb d (k H locs la hP hD hS hl)
theorem Mach.tableOut (M : Mach l own nm b nL R G V) {dflt lo hi : Int} {offs : Array Int} {len : Nat} {x : Int} {tgt : Nat} (d : decode b pc = .ok (.tableswitch dflt lo hi offs, len)) (hr : InR x) (h : x < lo ∨ hi < x) (ht : (pc : Int) + dflt = (tgt : Int)) (k : V kc ks tgt ws ls st) : V kc ks pc ws ls (.int (iI x) :: st) := by
  obtain ⟨p, e, s, m, args, below, meth, c, A, Q, rfl, hx, hb, hml, hown, hts, hK, hN, hA, hnm⟩ := M
  intro H locs la hP hD hS hl
  exact lv_tableOut hx hb d (by rw [iI_t hr]; exact h) ht (k H locs la hP hD hS hl)
theorem Mach.tableIn (M : Mach l own nm b nL R G V) {dflt lo hi : Int} {offs : Array Int} {len : Nat} (x : Int) {off : Int} {tgt : Nat} (d : decode b pc = .ok (.tableswitch dflt lo hi offs, len)) (hr : InR x) (h1 : lo ≤ x) (h2 : x ≤ hi) (ho : offs[(x - lo).toNat]? = some off) (ht : (pc : Int) + off = (tgt : Int)) (k : V kc ks tgt ws ls st) : V kc ks pc ws ls (.int (iI x) :: st) := by
  obtain ⟨p, e, s, m, args, below, meth, c, A, Q, rfl, hx, hb, hml, hown, hts, hK, hN, hA, hnm⟩ := M
  intro H locs la hP hD hS hl
  exact lv_tableIn hx hb d (by rw [iI_t hr]; omega) (by rw [iI_t hr]; omega) (by rw [iI_t hr]; exact ho) ht (k H locs la hP hD hS hl)
/-- a getfield of class own at pool place idx reads field k of the class ci of vwCl -/
def FG (own : String) (idx ci k : Nat) : Prop := ∃ (C : String) (T : u_T) (N : Nat), vwCl[ci]? = some (C, T, N) ∧ (∀ w ∈ u_ws C T N, w ∈ big) ∧ k < N ∧ Cond.fieldLink own idx (T k).1 (T k).2.1 (T k).2.2.1 ∈ big
def FP (own : String) (idx ci k : Nat) (ty : FieldType) (fin : Bool) : Prop := ∃ (C : String) (T : u_T) (N : Nat) (ty0 : Nat → FieldType), vwCl[ci]? = some (C, T, N) ∧ (∀ w ∈ u_ws C T N, w ∈ big) ∧ k < N ∧ Cond.fieldLink own idx (T k).1 (T k).2.1 (T k).2.2.1 ∈ big ∧ (∀ k, k < N → parseFieldDescriptor (T k).2.2.1 = some (ty0 k)) ∧ (∀ a, a < N → ∀ b, b < N → a ≠ b → (T a).2.1 ≠ (T b).2.1) ∧ (T k).2.2.2 = fin ∧ parseFieldDescriptor (T k).2.2.1 = some ty ∧ (fin = true → (T k).1 = own)
theorem Mach.getf (M : Mach l own nm b nL R G V) {idx ci k0 : Nat} {a : Nat} {fs : List Value} {v : Value} (F : FG own idx ci k0) (q0 : Nat) (hw : ws[q0]? = some (a, eO ci fs)) (hv : fs[k0]? = some v) (d : decode b pc = .ok (.getfield idx, 3)) (k : V kc ks (pc + 3) ws ls (v :: st)) : V kc ks pc ws ls (.ref a :: st) := by
  obtain ⟨p, e, s, m, args, below, meth, c, A, Q, rfl, hx, hb, hml, hown, hts, hK, hN, hA, hnm⟩ := M
  intro H locs la hP hD hS hl
  obtain ⟨C, T, N, h1, h2, h3, h4⟩ := F
  refine va_get hx hb hts h2 hown hK hP q0 hw h1 k0 h3 (hts _ h4) (fun _ h => h) hv d ?_
  exact k H locs la hP hD hS hl
theorem Mach.putf (M : Mach l own nm b nL R G V) {idx ci k0 : Nat} {a : Nat} {fs : List Value} {v : Value} {ty : FieldType} (F : FP own idx ci k0 ty false) (q0 : Nat) (hw : ws[q0]? = some (a, eO ci fs)) (hn : narrow ty v = v) (hfit : fits ty v = true) (hl0 : k0 < fs.length) (d : decode b pc = .ok (.putfield idx, 3)) (k : V kc ks (pc + 3) (ws.set q0 (a, eO ci (fs.set k0 v))) ls st) : V kc ks pc ws ls (v :: .ref a :: st) := by
  obtain ⟨p, e, s, m, args, below, meth, c, A, Q, rfl, hx, hb, hml, hown, hts, hK, hN, hA, hnm⟩ := M
  intro H locs la hP hD hS hl
  obtain ⟨C, T, N, ty0, h1, h2, h3, h4, h5, h6, h7, h8, h9⟩ := F
  refine va_put hx hb hts h2 ty0 h5 h6 hown hK hP hD hS q0 hw h1 k0 h3 (hts _ h4) (fun _ h => h) h7 h8 hn hfit hl0 d (fun H1 locs1 hP hD hS => ?_)
  exact k H1 locs1 la hP hD hS hl
theorem Mach.putF (M : Mach l own nm b nL R G V) {idx ci k0 : Nat} {a : Nat} {fs : List Value} {v : Value} {ty : FieldType} (hi : nm = "<init>") (F : FP own idx ci k0 ty true) (q0 : Nat) (hw : ws[q0]? = some (a, eO ci fs)) (hn : narrow ty v = v) (hfit : fits ty v = true) (hl0 : k0 < fs.length) (d : decode b pc = .ok (.putfield idx, 3)) (k : V kc ks (pc + 3) (ws.set q0 (a, eO ci (fs.set k0 v))) ls st) : V kc ks pc ws ls (v :: .ref a :: st) := by
  obtain ⟨p, e, s, m, args, below, meth, c, A, Q, rfl, hx, hb, hml, hown, hts, hK, hN, hA, hnm⟩ := M
  intro H locs la hP hD hS hl
  obtain ⟨C, T, N, ty0, h1, h2, h3, h4, h5, h6, h7, h8, h9⟩ := F
  refine va_putF hx hb hts h2 ty0 h5 h6 hown hK hP hD hS q0 hw h1 k0 h3 (hts _ h4) (fun _ h => h) h7 (hnm.trans hi) (h9 rfl) h8 hn hfit hl0 d (fun H1 locs1 hP hD hS => ?_)
  exact k H1 locs1 la hP hD hS hl
theorem Mach.iald (M : Mach l own nm b nL R G V) {a n : Nat} {g : Int → Int} {i : Int} (q0 : Nat) (hw : ws[q0]? = some (a, eI G n g)) (h0 : 0 ≤ i ∧ i < (n : Int)) (hn : n < 2147483648) (d : decode b pc = .ok (.iaload, 1)) (k : V kc ks (pc + 1) ws ls (.int (iI (g i)) :: st)) : V kc ks pc ws ls (.int (iI i) :: .ref a :: st) := by
  obtain ⟨p, e, s, m, args, below, meth, c, A, Q, rfl, hx, hb, hml, hown, hts, hK, hN, hA, hnm⟩ := M
  intro H locs la hP hD hS hl
  refine va_iald hx hb hK hP q0 0 hw rfl (iI_in h0.1 h0.2 hn) d ?_
  rw [iI_clamp h0.1 (by omega)]
  have e1 : ((i.toNat : Nat) : Int) = i := by omega
  rw [e1]
  exact k H locs la hP hD hS hl
theorem Mach.bald (M : Mach l own nm b nL R G V) {a n : Nat} {g : Int → Int} {i : Int} (q0 : Nat) (hw : ws[q0]? = some (a, eB G n g)) (h0 : 0 ≤ i ∧ i < (n : Int)) (hn : n < 2147483648) (d : decode b pc = .ok (.baload, 1)) (k : V kc ks (pc + 1) ws ls (.int (iI (g i)) :: st)) : V kc ks pc ws ls (.int (iI i) :: .ref a :: st) := by
  obtain ⟨p, e, s, m, args, below, meth, c, A, Q, rfl, hx, hb, hml, hown, hts, hK, hN, hA, hnm⟩ := M
  intro H locs la hP hD hS hl
  refine va_bald hx hb hK hP q0 1 hw rfl (iI_in h0.1 h0.2 hn) d ?_
  rw [iI_clamp h0.1 (by omega)]
  have e1 : ((i.toNat : Nat) : Int) = i := by omega
  rw [e1]
  exact k H locs la hP hD hS hl
theorem Mach.zald (M : Mach l own nm b nL R G V) {a n : Nat} {g : Int → Int} {i : Int} (q0 : Nat) (hw : ws[q0]? = some (a, eZ G n g)) (h0 : 0 ≤ i ∧ i < (n : Int)) (hn : n < 2147483648) (d : decode b pc = .ok (.baload, 1)) (k : V kc ks (pc + 1) ws ls (.int (iI (g i)) :: st)) : V kc ks pc ws ls (.int (iI i) :: .ref a :: st) := by
  obtain ⟨p, e, s, m, args, below, meth, c, A, Q, rfl, hx, hb, hml, hown, hts, hK, hN, hA, hnm⟩ := M
  intro H locs la hP hD hS hl
  refine va_zald hx hb hK hP q0 3 hw rfl (iI_in h0.1 h0.2 hn) d ?_
  rw [iI_clamp h0.1 (by omega)]
  have e1 : ((i.toNat : Nat) : Int) = i := by omega
  rw [e1]
  exact k H locs la hP hD hS hl
theorem Mach.lald (M : Mach l own nm b nL R G V) {a n : Nat} {g : Int → Int} {i : Int} (q0 : Nat) (hw : ws[q0]? = some (a, eL G n g)) (h0 : 0 ≤ i ∧ i < (n : Int)) (hn : n < 2147483648) (d : decode b pc = .ok (.laload, 1)) (k : V kc ks (pc + 1) ws ls (.long (lI (g i)) :: st)) : V kc ks pc ws ls (.int (iI i) :: .ref a :: st) := by
  obtain ⟨p, e, s, m, args, below, meth, c, A, Q, rfl, hx, hb, hml, hown, hts, hK, hN, hA, hnm⟩ := M
  intro H locs la hP hD hS hl
  refine va_lald hx hb hK hP q0 2 hw rfl (iI_in h0.1 h0.2 hn) d ?_
  rw [iI_clamp h0.1 (by omega)]
  have e1 : ((i.toNat : Nat) : Int) = i := by omega
  rw [e1]
  exact k H locs la hP hD hS hl
theorem Mach.iast (M : Mach l own nm b nL R G V) {a n : Nat} {g : Int → Int} {i x : Int} (q0 : Nat) (hw : ws[q0]? = some (a, eI G n g)) (h0 : 0 ≤ i ∧ i < (n : Int)) (hn : n < 2147483648) (d : decode b pc = .ok (.iastore, 1)) (k : V kc ks (pc + 1) (ws.set q0 (a, eI G n (upZ g i x))) ls st) : V kc ks pc ws ls (.int (iI x) :: .int (iI i) :: .ref a :: st) := by
  obtain ⟨p, e, s, m, args, below, meth, c, A, Q, rfl, hx, hb, hml, hown, hts, hK, hN, hA, hnm⟩ := M
  intro H locs la hP hD hS hl
  refine va_iast hx hb hK hP hD hS q0 0 hw rfl (iI_in h0.1 h0.2 hn) d (fun H1 locs1 hP hD hS => ?_)
  rw [iI_clamp h0.1 (by omega), upZ_up h0.1] at hP hD
  exact k H1 locs1 la hP hD hS hl
theorem Mach.lastore (M : Mach l own nm b nL R G V) {a n : Nat} {g : Int → Int} {i x : Int} (q0 : Nat) (hw : ws[q0]? = some (a, eL G n g)) (h0 : 0 ≤ i ∧ i < (n : Int)) (hn : n < 2147483648) (d : decode b pc = .ok (.lastore, 1)) (k : V kc ks (pc + 1) (ws.set q0 (a, eL G n (upZ g i x))) ls st) : V kc ks pc ws ls (.long (lI x) :: .int (iI i) :: .ref a :: st) := by
  obtain ⟨p, e, s, m, args, below, meth, c, A, Q, rfl, hx, hb, hml, hown, hts, hK, hN, hA, hnm⟩ := M
  intro H locs la hP hD hS hl
  refine va_last hx hb hK hP hD hS q0 2 hw rfl (iI_in h0.1 h0.2 hn) d (fun H1 locs1 hP hD hS => ?_)
  rw [iI_clamp h0.1 (by omega), upZ_upL h0.1] at hP hD
  exact k H1 locs1 la hP hD hS hl
theorem Mach.bast (M : Mach l own nm b nL R G V) {a n : Nat} {g : Int → Int} {i x : Int} (q0 : Nat) (hw : ws[q0]? = some (a, eB G n g)) (h0 : 0 ≤ i ∧ i < (n : Int)) (hn : n < 2147483648) (hb8 : vp_nar .byte (iI x) = iI x) (d : decode b pc = .ok (.bastore, 1)) (k : V kc ks (pc + 1) (ws.set q0 (a, eB G n (upZ g i x))) ls st) : V kc ks pc ws ls (.int (iI x) :: .int (iI i) :: .ref a :: st) := by
  obtain ⟨p, e, s, m, args, below, meth, c, A, Q, rfl, hx, hb, hml, hown, hts, hK, hN, hA, hnm⟩ := M
  intro H locs la hP hD hS hl
  refine va_bast hx hb hK hP hD hS q0 1 hw rfl (iI_in h0.1 h0.2 hn) d (fun H1 locs1 hP hD hS => ?_)
  rw [hb8, iI_clamp h0.1 (by omega), upZ_up h0.1] at hP hD
  exact k H1 locs1 la hP hD hS hl
theorem Mach.zast (M : Mach l own nm b nL R G V) {a n : Nat} {g : Int → Int} {i x : Int} (q0 : Nat) (hw : ws[q0]? = some (a, eZ G n g)) (h0 : 0 ≤ i ∧ i < (n : Int)) (hn : n < 2147483648) (hb8 : vp_nar .boolean (iI x) = iI x) (d : decode b pc = .ok (.bastore, 1)) (k : V kc ks (pc + 1) (ws.set q0 (a, eZ G n (upZ g i x))) ls st) : V kc ks pc ws ls (.int (iI x) :: .int (iI i) :: .ref a :: st) := by
  obtain ⟨p, e, s, m, args, below, meth, c, A, Q, rfl, hx, hb, hml, hown, hts, hK, hN, hA, hnm⟩ := M
  intro H locs la hP hD hS hl
  refine va_zast hx hb hK hP hD hS q0 3 hw rfl (iI_in h0.1 h0.2 hn) d (fun H1 locs1 hP hD hS => ?_)
  rw [hb8, iI_clamp h0.1 (by omega), upZ_up h0.1] at hP hD
  exact k H1 locs1 la hP hD hS hl
theorem Mach.alenI (M : Mach l own nm b nL R G V) {a n : Nat} {g : Int → Int} (q0 : Nat) (hw : ws[q0]? = some (a, eI G n g)) (d : decode b pc = .ok (.arraylength, 1)) (k : V kc ks (pc + 1) ws ls (.int (iI (n : Int)) :: st)) : V kc ks pc ws ls (.ref a :: st) := by
  obtain ⟨p, e, s, m, args, below, meth, c, A, Q, rfl, hx, hb, hml, hown, hts, hK, hN, hA, hnm⟩ := M
  intro H locs la hP hD hS hl
  refine va_alen (v := iI (n : Int)) hx hb hK hP q0 0 hw rfl (iI_nat n).symm d ?_
  exact k H locs la hP hD hS hl
theorem Mach.alenB (M : Mach l own nm b nL R G V) {a n : Nat} {g : Int → Int} (q0 : Nat) (hw : ws[q0]? = some (a, eB G n g)) (d : decode b pc = .ok (.arraylength, 1)) (k : V kc ks (pc + 1) ws ls (.int (iI (n : Int)) :: st)) : V kc ks pc ws ls (.ref a :: st) := by
  obtain ⟨p, e, s, m, args, below, meth, c, A, Q, rfl, hx, hb, hml, hown, hts, hK, hN, hA, hnm⟩ := M
  intro H locs la hP hD hS hl
  refine va_alen (v := iI (n : Int)) hx hb hK hP q0 1 hw rfl (iI_nat n).symm d ?_
  exact k H locs la hP hD hS hl
theorem Mach.alenL (M : Mach l own nm b nL R G V) {a n : Nat} {g : Int → Int} (q0 : Nat) (hw : ws[q0]? = some (a, eL G n g)) (d : decode b pc = .ok (.arraylength, 1)) (k : V kc ks (pc + 1) ws ls (.int (iI (n : Int)) :: st)) : V kc ks pc ws ls (.ref a :: st) := by
  obtain ⟨p, e, s, m, args, below, meth, c, A, Q, rfl, hx, hb, hml, hown, hts, hK, hN, hA, hnm⟩ := M
  intro H locs la hP hD hS hl
  refine va_alen (v := iI (n : Int)) hx hb hK hP q0 2 hw rfl (iI_nat n).symm d ?_
  exact k H locs la hP hD hS hl
theorem Mach.alenZ (M : Mach l own nm b nL R G V) {a n : Nat} {g : Int → Int} (q0 : Nat) (hw : ws[q0]? = some (a, eZ G n g)) (d : decode b pc = .ok (.arraylength, 1)) (k : V kc ks (pc + 1) ws ls (.int (iI (n : Int)) :: st)) : V kc ks pc ws ls (.ref a :: st) := by
  obtain ⟨p, e, s, m, args, below, meth, c, A, Q, rfl, hx, hb, hml, hown, hts, hK, hN, hA, hnm⟩ := M
  intro H locs la hP hD hS hl
  refine va_alen (v := iI (n : Int)) hx hb hK hP q0 3 hw rfl (iI_nat n).symm d ?_
  exact k H locs la hP hD hS hl
theorem Mach.widen (M : Mach l own nm b nL R G V) {k1 k2 : Nat} (h1 : kc ≤ k1) (h2 : ks ≤ k2) (k : V k1 k2 pc ws ls st) : V kc ks pc ws ls st := by
  obtain ⟨p, e, s, m, args, below, meth, c, A, Q, rfl, hx, hb, hml, hown, hts, hK, hN, hA, hnm⟩ := M
  intro H locs la hP hD hS hl
  exact W.widen h1 h2 (k H locs la hP hD hS hl)
theorem Mach.max (M : Mach l own nm b nL R G V) {idx : Nat} {x y : Int} (hlk : Cond.methodLink own idx Lib.Math.max.name ∈ big) (h1 : InR x) (h2 : InR y) (hz : ls.length = nL) (hR : 1 ≤ R.frames ∧ (st.map fun v => v.category).sum + 13 ≤ R.locals ∧ kc ≤ R.cells ∧ ks ≤ R.slots) (d : decode b pc = .ok (.invokestatic idx, 3)) (k : V kc ks (pc + 3) ws ls (.int (iI (Max.max x y)) :: st)) : V kc ks pc ws ls (.int (iI y) :: .int (iI x) :: st) := by
  obtain ⟨p, e, s, m, args, below, meth, c, A, Q, rfl, hx, hb, hml, hown, hts, hK, hN, hA, hnm⟩ := M
  intro H locs la hP hD hS hl
  have m1 : Cond.static Lib.Math.max.name ∈ big := mem_big (List.mem_append_right _ (by decide +kernel)) rfl
  have m2 : Cond.initialized "java/lang/Math" ∈ big := mem_big (List.mem_append_right _ (by decide +kernel)) rfl
  have m3 : Cond.code Lib.Math.max.name Lib.Math.max.code 2 (some .int) ∈ big := mem_big (List.mem_append_right _ (by decide +kernel)) rfl
  refine va_mmax hx hb (by rw [hml, hl.1, hz]) hown (hts _ hlk) (hts _ m1) (hts _ m2) (hts _ m3) hR.1 hR.2.1 hR.2.2.1 hR.2.2.2 d ?_
  have e1 : (if iI x < iI y then iI y else iI x) = iI (Max.max x y) := by
    by_cases h : x < y
    · rw [if_pos ((iI_lt h1 h2).mpr h), Int.max_eq_right (by omega)]
    · rw [if_neg (fun z => h ((iI_lt h1 h2).mp z)), Int.max_eq_left (by omega)]
  rw [e1]
  exact k H locs la hP hD hS hl
theorem Mach.min (M : Mach l own nm b nL R G V) {idx : Nat} {x y : Int} (hlk : Cond.methodLink own idx Lib.Math.min.name ∈ big) (h1 : InR x) (h2 : InR y) (hz : ls.length = nL) (hR : 1 ≤ R.frames ∧ (st.map fun v => v.category).sum + 13 ≤ R.locals ∧ kc ≤ R.cells ∧ ks ≤ R.slots) (d : decode b pc = .ok (.invokestatic idx, 3)) (k : V kc ks (pc + 3) ws ls (.int (iI (Min.min x y)) :: st)) : V kc ks pc ws ls (.int (iI y) :: .int (iI x) :: st) := by
  obtain ⟨p, e, s, m, args, below, meth, c, A, Q, rfl, hx, hb, hml, hown, hts, hK, hN, hA, hnm⟩ := M
  intro H locs la hP hD hS hl
  have m1 : Cond.static Lib.Math.min.name ∈ big := mem_big (List.mem_append_right _ (by decide +kernel)) rfl
  have m2 : Cond.initialized "java/lang/Math" ∈ big := mem_big (List.mem_append_right _ (by decide +kernel)) rfl
  have m3 : Cond.code Lib.Math.min.name Lib.Math.min.code 2 (some .int) ∈ big := mem_big (List.mem_append_right _ (by decide +kernel)) rfl
  refine va_mmin hx hb (by rw [hml, hl.1, hz]) hown (hts _ hlk) (hts _ m1) (hts _ m2) (hts _ m3) hR.1 hR.2.1 hR.2.2.1 hR.2.2.2 d ?_
  have e1 : (if iI y < iI x then iI y else iI x) = iI (Min.min x y) := by
    by_cases h : y < x
    · rw [if_pos ((iI_lt h2 h1).mpr h), Int.min_eq_right (by omega)]
    · rw [if_neg (fun z => h ((iI_lt h2 h1).mp z)), Int.min_eq_left (by omega)]
  rw [e1]
  exact k H locs la hP hD hS hl
end ROWS
/-! CONTRACTS: av: the arguments; wc: the world; rm: the room (what it makes stands there); rv: the answer; w1: the world behind it -/
def Qg {S : Type} (rv : S → Option Value) (post : S → Prop) (B : S → State → Prop) (A : Nat → Prop) : Array Value → State → Outcome → State → Prop := fun _ st oc t => (∃ u : S, oc = .returned (rv u) ∧ post u ∧ B u t) ∧ va_F A st t
def Con (l : Launch) (G : GT) (y : MethodName) (cy : ByteArray) (ny : Nat) (ry : Option FieldType) (rm : Room) (av : List Value) (wc : va_W) {S : Type} (rv : S → Option Value) (w1 : S → va_W) (post : S → Prop) : Prop :=
  ∀ sz : Nat, Met l y (Cond.code y cy ny ry :: big) rm (va_Pc av (fun U => U.heap.size = sz ∧ va_P G.1 vwCl wc U.heap ∧ va_K G.1 vwCl (T4 G) U ∧ va_D (fun _ => True) wc ∧ nestOK U))
    (Qg rv post (fun u t => va_P G.1 vwCl (w1 u) t.heap ∧ va_D (va_A wc sz) (w1 u)) (va_A wc sz)) rm.cells rm.slots (va_A wc sz)
/-- a method that only reads: its answer -/
abbrev ConF (l : Launch) (G : GT) (y : MethodName) (cy : ByteArray) (ny : Nat) (ry : Option FieldType) (rm : Room) (av : List Value) (wc : va_W) (r : Option Value) : Prop :=
  Con l G y cy ny ry rm av wc (S := Unit) (fun _ => r) (fun _ => wc) (fun _ => True)
def okr (ry : Option FieldType) (z : Int) : Prop := ry = some .int ∨ (ry = some .boolean ∧ (z = 0 ∨ z = 1))
/-- the ends of a method -/
def EndI {S : Type} (b : ByteArray) (ry : Option FieldType) (rm : Room) (V : VT) (rv : S → Option Value) (w1 : S → va_W) (post : S → Prop) : Prop := ∀ (u : S) (z : Int) (pc : Nat) (ls : List (Option Value)) (ws : va_W), decode b pc = .ok (.ireturn, 1) → okr ry z → rv u = some (.int (iI z)) → ws = w1 u → post u → V rm.cells rm.slots pc ws ls [.int (iI z)]
def EndL {S : Type} (b : ByteArray) (ry : Option FieldType) (rm : Room) (V : VT) (rv : S → Option Value) (w1 : S → va_W) (post : S → Prop) : Prop := ∀ (u : S) (z : Int64) (pc : Nat) (ls : List (Option Value)) (ws : va_W), decode b pc = .ok (.lreturn, 1) → ry = some .long → rv u = some (.long z) → ws = w1 u → post u → V rm.cells rm.slots pc ws ls [.long z]
def EndV {S : Type} (b : ByteArray) (ry : Option FieldType) (rm : Room) (V : VT) (rv : S → Option Value) (w1 : S → va_W) (post : S → Prop) : Prop := ∀ (u : S) (pc : Nat) (ls : List (Option Value)) (ws : va_W), decode b pc = .ok (.return_, 1) → ry = none → rv u = none → ws = w1 u → post u → V rm.cells rm.slots pc ws ls []
def EndA {S : Type} (b : ByteArray) (ry : Option FieldType) (rm : Room) (V : VT) (rv : S → Option Value) (w1 : S → va_W) (post : S → Prop) : Prop := ∀ (u : S) (v : Value) (pc : Nat) (ls : List (Option Value)) (ws : va_W), decode b pc = .ok (.areturn, 1) → (∃ n, ry = some (.object n)) → (v = .null ∨ ∃ a, v = .ref a) → rv u = some v → ws = w1 u → post u → V rm.cells rm.slots pc ws ls [v]
theorem Con.mk {l : Launch} {G : GT} {y : MethodName} {cy : ByteArray} {ny : Nat} {ry : Option FieldType} {rm : Room} {av : List Value} {wc : va_W} {S : Type} {rv : S → Option Value} {w1 : S → va_W} {post : S → Prop}
    (hy : plainName y.cls = true) (lo : List (Option Value)) (hlo : lo.length = ny) (hav : (lg_sl av).length ≤ ny) (hp : lo_pairs 0 lo = lv_args 0 av)
    (body : ∀ V : VT, Mach l y.cls y.name cy ny rm G V → EndI cy ry rm V rv w1 post → EndL cy ry rm V rv w1 post → EndV cy ry rm V rv w1 post → EndA cy ry rm V rv w1 post → V 0 0 0 wc lo []) : Con l G y cy ny ry rm av wc rv w1 post := by
  intro sz
  refine Met.ofW (cc := cy) (maxL := ny) (ret := ry) hy rfl ?_
  intro p e s m args below meth c s₁ B hml hv
  obtain ⟨rfl, hsz, hP, hK, hD0, hN⟩ := hv
  have hx := B.exec
  have hb := B.bytes
  have hr := B.returns
  have hts0 := atoms_spec (ws := Cond.code y cy ny ry :: big) B.pre
  have hts : ∀ w ∈ big, w.before av.toArray s = true := fun w h => hts0 w (List.mem_cons_of_mem _ h)
  have hown : s.vm.findClass y.cls = some m.cls := findClass_of_methodNamed B.named
  have hlocks := B.notSynchronized
  have hin : meth.name = y.name := (name_of_methodNamed B.named B.method).1
  subst hsz
  have hD := hD0.self (sz := s.heap.size)
  have hl := lv_entry av (n := ny) hav
  rw [lg_entry_eq]
  have hl2 : lo_has ((lg_sl av ++ List.replicate (ny - (lg_sl av).length) Slot.unset).toArray) lo := by
    unfold lo_has
    rw [hp, hlo]
    exact hl
  refine body (Vq p l e (headSpec (Cond.code y cy ny ry :: big) rm).room s m av.toArray below meth c (va_A wc s.heap.size) (MQ below (Qg rv post (fun u t => va_P G.1 vwCl (w1 u) t.heap ∧ va_D (va_A wc s.heap.size) (w1 u)) (va_A wc s.heap.size)) av.toArray s rm.cells rm.slots (va_A wc s.heap.size)) G)
    ⟨p, e, s, m, av.toArray, below, meth, c, _, _, rfl, hx, hb, hml, hown, hts, hK, hN, fun q h => Or.inr h, hin⟩ ?_ ?_ ?_ ?_ s.heap [] _ hP hD va_S.rf hl2
  · intro u z pc ls ws d hz hu hw hpo H locs la hP hD hS hl
    subst hw
    rcases hz with e1 | ⟨e1, e2⟩
    · refine W.iret (v := iI z) hx hb (hr.trans e1) (fun t ht hW => ⟨⟨u, by rw [hu], hpo, by rw [ht]; exact hP, hD⟩, hS.F ht⟩) hS.2.2 d hlocks
    · refine W.zret (v := iI z) (ty := .boolean) hx hb (hr.trans e1) ?_ (fun t ht hW => ⟨⟨u, by rw [hu], hpo, by rw [ht]; exact hP, hD⟩, hS.F ht⟩) hS.2.2 d hlocks
      rcases e2 with rfl | rfl <;> decide +kernel
  · intro u z pc ls ws d hz hu hw hpo H locs la hP hD hS hl
    subst hw
    exact W.lret (v := z) hx hb (hr.trans hz) (fun t ht hW => ⟨⟨u, by rw [hu], hpo, by rw [ht]; exact hP, hD⟩, hS.F ht⟩) hS.2.2 d hlocks
  · intro u pc ls ws d hz hu hw hpo H locs la hP hD hS hl
    subst hw
    exact W.vret hx hb (hr.trans hz) (fun t ht hW => ⟨⟨u, by rw [hu], hpo, by rw [ht]; exact hP, hD⟩, hS.F ht⟩) hS.2.2 d hlocks
  · intro u v pc ls ws d hz hv hu hw hpo H locs la hP hD hS hl
    subst hw
    obtain ⟨n, hz⟩ := hz
    exact W.aret (v := v) hx hb (hr.trans hz) (Or.inl ⟨n, rfl⟩) hv (fun t ht hW => ⟨⟨u, by rw [hu], hpo, by rw [ht]; exact hP, hD⟩, hS.F ht⟩) hS.2.2 d hlocks
/-- a call's row, for any end -/
theorem va_callg {p : Program} {l : Launch} {e : Env} {R : Room} {s : State} {m : MethodId} {args : Array Value} {below : List Frame} {meth : Method} {c : Code} {H : Heap} {locs : List Loc} {cells slots : Nat} {Q : State → Prop} {pc : Nat} {ls : Array Slot} {rest st0 : List Value} {a : Array Value} {A0 A1 : Nat → Prop} {H0 : Heap} {mc ms : Nat} {free : Addr → Prop}
    {S : Type} {rv : S → Option Value} {post : S → Prop} {B : S → State → Prop} (hr : va_Run p l e R s m args below meth c H locs cells slots mc ms (F0 m pc ls st0) rest (Qg rv post B A1 a) free) (hS : va_S A0 H0 H locs) (hA : ∀ q, q < H.size → A1 q → A0 q) (hf : ∀ q, free q → A0 q)
    (kk : ∀ (u : S) (t : State) (H1 : Heap) (locs1 : List Loc), t.heap = H1 → post u → B u t → H.size ≤ H1.size → (∀ q : Nat, q < H.size → ¬ A1 q → H1[q]? = H[q]?) → va_S A0 H0 H1 locs1 → W p l e R s m args below meth c H1 locs1 (cells + mc) (slots + ms) Q (F0 m (pc + 3) ls ((rv u).toList ++ rest))) : W p l e R s m args below meth c H locs cells slots Q (F0 m pc ls st0) := by
  intro T hT X
  obtain ⟨v, st₀, t, T', L, h0, X', hL, e1, e2, ⟨⟨u, hv, hp, hb⟩, hz, hk⟩, st⟩ := hr T hT X
  have hv2 : v = rv u := Outcome.returned.inj hv
  subst hv2
  rw [h0] at hz hk
  obtain ⟨t2, a1, b1⟩ := kk u t T'.heap (locs ++ L) e1.symm hp hb (by rw [e1]; exact hz) (fun q h1 h2 => by rw [e1]; exact hk q h1 h2)
    ⟨Nat.le_trans hS.1 (by rw [e1]; exact hz), fun q h1 h2 => by rw [e1, hk q (Nat.lt_of_lt_of_le h1 hS.1) (fun z => h2 (hA q (Nat.lt_of_lt_of_le h1 hS.1) z))]; exact hS.2.1 q h1 h2, fun q hq => by
      rcases List.mem_append.mp hq with h | h
      · exact hS.2.2 q h
      · exact hf _ (hL q h)⟩ T' rfl X'
  exact ⟨t2, st t2 a1, b1⟩
/-- a part of a world, put back -/
def putL : va_W → List Nat → va_W → va_W
  | ws, i :: is, c :: cs => putL (ws.set i c) is cs
  | ws, _, _ => ws
theorem putL_get : ∀ (is : List Nat) (ws w1 : va_W), va_nd is = true → is.length = w1.length → (∀ i ∈ is, i < ws.length) → ∀ (k : Nat) (q : Nat × va_E), (putL ws is w1)[k]? = some q → (∃ j : Nat, is[j]? = some k ∧ w1[j]? = some q) ∨ (k ∉ is ∧ ws[k]? = some q) := by
  intro is
  induction is with
  | nil => intro ws w1 _ _ _ k q h; exact Or.inr ⟨List.not_mem_nil, by cases w1 <;> exact h⟩
  | cons i is ih =>
    intro ws w1 hn hl hb k q h
    cases w1 with
    | nil => simp at hl
    | cons c cs =>
      simp only [va_nd, Bool.and_eq_true, decide_eq_true_eq] at hn
      rcases ih (ws.set i c) cs hn.2 (by simpa using hl) (fun j hj => by rw [List.length_set]; exact hb j (List.mem_cons_of_mem _ hj)) k q h with ⟨j, h1, h2⟩ | ⟨h1, h2⟩
      · exact Or.inl ⟨j + 1, by simpa using h1, by simpa using h2⟩
      · by_cases hk : k = i
        · subst hk
          rw [List.getElem?_set_self (hb k List.mem_cons_self)] at h2
          exact Or.inl ⟨0, by simp, by simpa using h2⟩
        · rw [List.getElem?_set_ne (Ne.symm hk)] at h2
          exact Or.inr ⟨fun z => (List.mem_cons.mp z).elim hk h1, h2⟩
theorem putL_len : ∀ (is : List Nat) (ws w1 : va_W), (putL ws is w1).length = ws.length := by
  intro is
  induction is with
  | nil => intro ws w1; cases w1 <;> rfl
  | cons i is ih =>
    intro ws w1
    cases w1 with
    | nil => rfl
    | cons c cs => show (putL (ws.set i c) is cs).length = _; rw [ih, List.length_set]
/-- behind a call: the callee's cells in their places (the same addresses), what it made behind -/
theorem va_putL {A0 : Nat → Prop} {G : GT} {ws wc wa wb : va_W} {H H1 : Heap} (hP : va_P G.1 vwCl ws H) (hD : va_D A0 ws) (is : List Nat) (hC : is.map (fun i => ws[i]?) = wc.map some) (hn : va_nd is = true) (hfst : wa.map Prod.fst = wc.map Prod.fst)
    (hk : ∀ q : Nat, q < H.size → ¬ va_A wc H.size q → H1[q]? = H[q]?) (hF : ∀ q, va_A wc H.size q → A0 q) (hP1 : va_P G.1 vwCl (wa ++ wb) H1) (hD1 : va_D (va_A wc H.size) (wa ++ wb)) : va_P G.1 vwCl (putL ws is wa ++ wb) H1 ∧ va_D A0 (putL ws is wa ++ wb) := by
  have hlen : is.length = wa.length := by
    have h1 := congrArg List.length hC
    have h2 := congrArg List.length hfst
    simp at h1 h2
    omega
  have hat : ∀ (j i : Nat), is[j]? = some i → ∃ q, wc[j]? = some q ∧ ws[i]? = some q := by
    intro j i h
    have h1 : (is.map (fun i => ws[i]?))[j]? = some (ws[i]?) := by rw [List.getElem?_map, h]; rfl
    rw [hC, List.getElem?_map] at h1
    cases hw : wc[j]? with
    | none => rw [hw] at h1; simp at h1
    | some q => rw [hw] at h1; simp at h1; exact ⟨q, rfl, h1.symm⟩
  have hbd : ∀ i ∈ is, i < ws.length := by
    intro i hi
    obtain ⟨j, hj⟩ := List.getElem?_of_mem hi
    obtain ⟨q, -, h2⟩ := hat j i hj
    exact (List.getElem?_eq_some_iff.mp h2).1
  have hfa : ∀ (j : Nat) (x y : Nat × va_E), wa[j]? = some x → wc[j]? = some y → x.1 = y.1 := by
    intro j x y h1 h2
    have h3 : (wa.map Prod.fst)[j]? = (wc.map Prod.fst)[j]? := by rw [hfst]
    rw [List.getElem?_map, List.getElem?_map, h1, h2] at h3
    simpa using h3
  -- each cell of the new world: out of wa ++ wb, or an untouched one
  have key : ∀ (k : Nat) (q : Nat × va_E), (putL ws is wa ++ wb)[k]? = some q → (∃ j : Nat, (wa ++ wb)[j]? = some q ∧ ((∃ i0 : Nat, is[j]? = some i0 ∧ k = i0 ∧ j < wa.length) ∨ (wa.length ≤ j ∧ k = ws.length + (j - wa.length)))) ∨ (k ∉ is ∧ ws[k]? = some q) := by
    intro k q h
    by_cases hl : k < (putL ws is wa).length
    · rw [List.getElem?_append_left hl] at h
      rcases putL_get is ws wa hn hlen hbd k q h with ⟨j, h1, h2⟩ | h1
      · have hj := (List.getElem?_eq_some_iff.mp h2).1
        exact Or.inl ⟨j, by rw [List.getElem?_append_left hj]; exact h2, Or.inl ⟨k, h1, rfl, hj⟩⟩
      · exact Or.inr h1
    · rw [List.getElem?_append_right (by omega)] at h
      rw [putL_len] at h hl
      exact Or.inl ⟨wa.length + (k - ws.length), by rw [List.getElem?_append_right (by omega)]; rw [show wa.length + (k - ws.length) - wa.length = k - ws.length by omega]; exact h, Or.inr ⟨by omega, by omega⟩⟩
  have apart : ∀ (k : Nat) (q : Nat × va_E), k ∉ is → ws[k]? = some q → q.1 < H.size ∧ ¬ va_A wc H.size q.1 := by
    intro k q hki hq
    have hl := (hP k q hq).lt
    refine ⟨hl, fun h => ?_⟩
    rcases h with ⟨k2, e, h⟩ | h
    · have hk2 : k2 < is.length := by
        have h1 := congrArg List.length hC
        simp at h1
        have := (List.getElem?_eq_some_iff.mp h).1
        omega
      obtain ⟨q2, h3, h4⟩ := hat k2 is[k2] (by simp [hk2])
      rw [h] at h3
      cases h3
      have := hD.1 k is[k2] q (q.1, e) hq h4 rfl
      exact hki (this ▸ List.getElem_mem hk2)
    · omega
  refine ⟨fun k q hq => ?_, fun i j x y hx hy hxy => ?_, fun k q hq => ?_⟩
  · rcases key k q hq with ⟨j, h1, -⟩ | ⟨h1, h2⟩
    · exact hP1 j q h1
    · obtain ⟨g1, g2⟩ := apart k q h1 h2
      exact (hP k q h2).kept (hk q.1 g1 g2)
  · rcases key i x hx with ⟨a, h1, h1'⟩ | ⟨h1, h2⟩ <;> rcases key j y hy with ⟨b, h3, h3'⟩ | ⟨h3, h4⟩
    · have hab := hD1.1 a b x y h1 h3 hxy
      subst hab
      rcases h1' with ⟨i0, g1, g2, g3⟩ | ⟨g1, g2⟩ <;> rcases h3' with ⟨i1, f1, f2, f3⟩ | ⟨f1, f2⟩
      · rw [g1] at f1; cases f1; omega
      · omega
      · omega
      · omega
    · exact absurd (hxy ▸ hD1.2 a x h1) (apart j y h3 h4).2
    · exact absurd (hD1.2 b y h3) (by rw [← hxy]; exact (apart i x h1 h2).2)
    · exact hD.1 i j x y h2 h4 hxy
  · rcases key k q hq with ⟨j, h1, -⟩ | ⟨h1, h2⟩
    · exact hF _ (hD1.2 j q h1)
    · exact hD.2 k q h2
theorem putL_self : ∀ (is : List Nat) (ws wc : va_W), is.map (fun i => ws[i]?) = wc.map some → putL ws is wc = ws := by
  intro is
  induction is with
  | nil => intro ws wc h; cases wc <;> rfl
  | cons i is ih =>
    intro ws wc h
    cases wc with
    | nil => rfl
    | cons c cs =>
      simp only [List.map_cons, List.cons.injEq] at h
      have hs : ws.set i c = ws := by
        obtain ⟨hi, e⟩ := List.getElem?_eq_some_iff.mp h.1
        rw [← e]; simp
      show putL (ws.set i c) is cs = ws
      rw [hs]
      exact ih ws cs h.2
/-! the callee's own words, by the caller's -/
def MV (own : String) (idx : Nat) (y : MethodName) (cy : ByteArray) (ny : Nat) (ry : Option FieldType) (n : Nat) : Prop := Cond.methodLink own idx y ∈ big ∧ Cond.instanceMethod y ∈ big ∧ Cond.selects y.cls y y ∈ big ∧ Cond.initialized y.cls ∈ big ∧ Cond.code y cy ny ry ∈ big ∧ (y.cls ≠ "java/lang/invoke/MethodHandle" ∧ y.cls ≠ "java/lang/invoke/VarHandle" ∧ (parseMethodDescriptor y.desc).map (fun d => d.parameters.length) = some n)
def MS (own : String) (idx : Nat) (y : MethodName) (cy : ByteArray) (ny : Nat) (ry : Option FieldType) (n : Nat) : Prop := Cond.methodLink own idx y ∈ big ∧ Cond.static y ∈ big ∧ Cond.initialized y.cls ∈ big ∧ Cond.code y cy ny ry ∈ big ∧ (y.cls ≠ "java/lang/invoke/MethodHandle" ∧ y.cls ≠ "java/lang/invoke/VarHandle" ∧ (parseMethodDescriptor y.desc).map (fun d => d.parameters.length) = some n)
def MSN (own : String) (idx : Nat) (y : MethodName) (host : String) (cy : ByteArray) (ny : Nat) (ry : Option FieldType) (n : Nat) : Prop := (own, idx, y, host) ∈ nestQ ∧ Cond.static y ∈ big ∧ Cond.initialized y.cls ∈ big ∧ Cond.code y cy ny ry ∈ big ∧ (y.cls ≠ "java/lang/invoke/MethodHandle" ∧ y.cls ≠ "java/lang/invoke/VarHandle" ∧ (parseMethodDescriptor y.desc).map (fun d => d.parameters.length) = some n)
def MI (own : String) (idx : Nat) (y : MethodName) (cy : ByteArray) (ny : Nat) (n : Nat) : Prop := Cond.methodLink own idx y ∈ big ∧ Cond.instanceMethod y ∈ big ∧ Cond.initialized y.cls ∈ big ∧ y.name = "<init>" ∧ Cond.code y cy ny none ∈ big ∧ (y.cls ≠ "java/lang/invoke/MethodHandle" ∧ y.cls ≠ "java/lang/invoke/VarHandle" ∧ (parseMethodDescriptor y.desc).map (fun d => d.parameters.length) = some n)
def MIN (own : String) (idx : Nat) (y : MethodName) (host : String) (cy : ByteArray) (ny : Nat) (n : Nat) : Prop := (own, idx, y, host) ∈ nestQ ∧ Cond.instanceMethod y ∈ big ∧ Cond.initialized y.cls ∈ big ∧ y.name = "<init>" ∧ Cond.code y cy ny none ∈ big ∧ (y.cls ≠ "java/lang/invoke/MethodHandle" ∧ y.cls ≠ "java/lang/invoke/VarHandle" ∧ (parseMethodDescriptor y.desc).map (fun d => d.parameters.length) = some n)
theorem con_blind {G : GT} {av : List Value} {sz : Nat} {wc : va_W} : FrameBlind (va_Pc av (fun U => U.heap.size = sz ∧ va_P G.1 vwCl wc U.heap ∧ va_K G.1 vwCl (T4 G) U ∧ va_D (fun _ => True) wc ∧ nestOK U)) := by
  intro a U g mk q
  obtain ⟨q0, q1, q2, q3, q4, q5⟩ := q
  exact ⟨q0, q1, q2, va_K.moved (u := U) (U := U.calling g mk a) (Vm.Alike.refl U.vm) q3, q4, nestOK.same (u := U) rfl q5⟩
section CALLS
variable {l : Launch} {own nm : String} {b : ByteArray} {nL : Nat} {R : Room} {G : GT} {V : VT} {kc ks pc : Nat} {ws : va_W} {ls : List (Option Value)} {st rest : List Value}
variable {y : MethodName} {cy : ByteArray} {ny : Nat} {ry : Option FieldType} {rm : Room} {av : List Value} {wc : va_W} {S : Type} {rv : S → Option Value} {w1 : S → va_W} {post : S → Prop} {idx n : Nat}
theorem Mach.invV (M : Mach l own nm b nL R G V) (C : Con l G y cy ny ry rm av wc rv w1 post) (F : MV own idx y cy ny ry n) (is : List Nat) (hC : is.map (fun i => ws[i]?) = wc.map some) (hn : va_nd is = true) {a ci : Nat} {fs : List Value} {As : List Value} (heq : av = .ref a :: As) (q0 : Nat) {Tc : u_T} {Nc : Nat} (hcl : vwCl[ci]? = some (y.cls, Tc, Nc)) (hwr : ws[q0]? = some (a, eO ci fs)) (hav : As.length = n) (hst : st = As.reverse ++ .ref a :: rest) (hcat : (rest.map fun v => v.category).sum ≤ 8) (hz : ls.length = nL) (hR : rm.frames + 1 ≤ R.frames ∧ 8 + (ny + 11) + rm.locals ≤ R.locals) (hk : kc + rm.cells ≤ R.cells ∧ ks + rm.slots ≤ R.slots)
    (wa wb : S → va_W) (hw : ∀ u, w1 u = wa u ++ wb u) (hf : ∀ u, (wa u).map Prod.fst = wc.map Prod.fst) (d : decode b pc = .ok (.invokevirtual idx, 3)) (k : ∀ u, post u → V (kc + rm.cells) (ks + rm.slots) (pc + 3) (putL ws is (wa u) ++ wb u) ls ((rv u).toList ++ rest)) : V kc ks pc ws ls st := by
  obtain ⟨p, e, s, m, args, below, meth, c, A, Q, rfl, hx, hb, hml, hown, hts, hK, hN, hA, hnm⟩ := M
  intro H locs la hP hD hS hl
  subst hst
  subst heq
  have hPc : va_P G.1 vwCl wc H := by
    intro j q hq
    have h1 : (is.map (fun i => ws[i]?))[j]? = some (some q) := by rw [hC, List.getElem?_map, hq]; rfl
    rw [List.getElem?_map] at h1
    cases hi : is[j]? with
    | none => rw [hi] at h1; simp at h1
    | some i => rw [hi] at h1; simp at h1; exact hP i q h1
  have hDc : va_D A wc := hD.sub is hn hC
  have hFc := va_free (wc := wc) hD hS hA is hC
  refine va_callg (va_runV (C := y.cls) (As := As) (rest := rest) (b := a) ⟨hx, hb, hml, hown, hts⟩ (C H.size) ⟨callB_of n hts (goodBig F.2.2.2.2.1) rfl rfl rfl (hts _ F.2.2.2.1) (hts _ F.1) F.2.2.2.2.2 hR, hts _ F.2.1, hts _ F.2.2.1⟩ ⟨con_blind, va_recv hK hP hcl hwr, fun U hU hW => ⟨rfl, by rw [hU], by rw [hU]; exact hPc, va_K.moved hW.alike hK, hDc.weaken (fun _ _ _ _ => trivial), nestOK.warm hW hN⟩⟩ rfl hav (hl.1.trans hz) rfl (lv_room hcat) d hk) hS (fun q _ h => hFc q h) hFc (fun u t H1 locs1 ht hpo hB hz1 hk1 hS1 => ?_)
  obtain ⟨hP1, hD1⟩ := hB
  rw [ht, hw] at hP1
  rw [hw] at hD1
  obtain ⟨hP2, hD2⟩ := va_putL hP hD is hC hn (hf u) hk1 hFc hP1 hD1
  exact k u hpo H1 locs1 la hP2 hD2 hS1 hl
theorem Mach.invS (M : Mach l own nm b nL R G V) (C : Con l G y cy ny ry rm av wc rv w1 post) (F : MS own idx y cy ny ry n) (is : List Nat) (hC : is.map (fun i => ws[i]?) = wc.map some) (hn : va_nd is = true) (hav : av.length = n) (hst : st = av.reverse ++ rest) (hcat : (rest.map fun v => v.category).sum ≤ 8) (hz : ls.length = nL) (hR : rm.frames + 1 ≤ R.frames ∧ 8 + (ny + 11) + rm.locals ≤ R.locals) (hk : kc + rm.cells ≤ R.cells ∧ ks + rm.slots ≤ R.slots)
    (wa wb : S → va_W) (hw : ∀ u, w1 u = wa u ++ wb u) (hf : ∀ u, (wa u).map Prod.fst = wc.map Prod.fst) (d : decode b pc = .ok (.invokestatic idx, 3)) (k : ∀ u, post u → V (kc + rm.cells) (ks + rm.slots) (pc + 3) (putL ws is (wa u) ++ wb u) ls ((rv u).toList ++ rest)) : V kc ks pc ws ls st := by
  obtain ⟨p, e, s, m, args, below, meth, c, A, Q, rfl, hx, hb, hml, hown, hts, hK, hN, hA, hnm⟩ := M
  intro H locs la hP hD hS hl
  subst hst
  skip
  have hPc : va_P G.1 vwCl wc H := by
    intro j q hq
    have h1 : (is.map (fun i => ws[i]?))[j]? = some (some q) := by rw [hC, List.getElem?_map, hq]; rfl
    rw [List.getElem?_map] at h1
    cases hi : is[j]? with
    | none => rw [hi] at h1; simp at h1
    | some i => rw [hi] at h1; simp at h1; exact hP i q h1
  have hDc : va_D A wc := hD.sub is hn hC
  have hFc := va_free (wc := wc) hD hS hA is hC
  refine va_callg (va_runS (As := av) (rest := rest) ⟨hx, hb, hml, hown, hts⟩ (C H.size) ⟨callB_of n hts (goodBig F.2.2.2.1) rfl rfl rfl (hts _ F.2.2.1) (hts _ F.1) F.2.2.2.2 hR, hts _ F.2.1⟩ ⟨con_blind, fun U hU hW => ⟨rfl, by rw [hU], by rw [hU]; exact hPc, va_K.moved hW.alike hK, hDc.weaken (fun _ _ _ _ => trivial), nestOK.warm hW hN⟩⟩ rfl hav (hl.1.trans hz) rfl (lv_room hcat) d hk) hS (fun q _ h => hFc q h) hFc (fun u t H1 locs1 ht hpo hB hz1 hk1 hS1 => ?_)
  obtain ⟨hP1, hD1⟩ := hB
  rw [ht, hw] at hP1
  rw [hw] at hD1
  obtain ⟨hP2, hD2⟩ := va_putL hP hD is hC hn (hf u) hk1 hFc hP1 hD1
  exact k u hpo H1 locs1 la hP2 hD2 hS1 hl
theorem Mach.invSN (M : Mach l own nm b nL R G V) (C : Con l G y cy ny ry rm av wc rv w1 post) {host : String} (F : MSN own idx y host cy ny ry n) (is : List Nat) (hC : is.map (fun i => ws[i]?) = wc.map some) (hn : va_nd is = true) (hav : av.length = n) (hst : st = av.reverse ++ rest) (hcat : (rest.map fun v => v.category).sum ≤ 8) (hz : ls.length = nL) (hR : rm.frames + 1 ≤ R.frames ∧ 8 + (ny + 11) + rm.locals ≤ R.locals) (hk : kc + rm.cells ≤ R.cells ∧ ks + rm.slots ≤ R.slots)
    (wa wb : S → va_W) (hw : ∀ u, w1 u = wa u ++ wb u) (hf : ∀ u, (wa u).map Prod.fst = wc.map Prod.fst) (d : decode b pc = .ok (.invokestatic idx, 3)) (k : ∀ u, post u → V (kc + rm.cells) (ks + rm.slots) (pc + 3) (putL ws is (wa u) ++ wb u) ls ((rv u).toList ++ rest)) : V kc ks pc ws ls st := by
  obtain ⟨p, e, s, m, args, below, meth, c, A, Q, rfl, hx, hb, hml, hown, hts, hK, hN, hA, hnm⟩ := M
  intro H locs la hP hD hS hl
  subst hst
  skip
  have hPc : va_P G.1 vwCl wc H := by
    intro j q hq
    have h1 : (is.map (fun i => ws[i]?))[j]? = some (some q) := by rw [hC, List.getElem?_map, hq]; rfl
    rw [List.getElem?_map] at h1
    cases hi : is[j]? with
    | none => rw [hi] at h1; simp at h1
    | some i => rw [hi] at h1; simp at h1; exact hP i q h1
  have hDc : va_D A wc := hD.sub is hn hC
  have hFc := va_free (wc := wc) hD hS hA is hC
  refine va_callg (va_runSN (host := host) (As := av) (rest := rest) ⟨hx, hb, hml, hown, hts⟩ (C H.size) ⟨va_cnB n hts (goodBig F.2.2.2.1) rfl rfl rfl (hN _ F.1) (hts _ F.2.2.1) F.2.2.2.2 hR, hts _ F.2.1, trivial⟩ ⟨con_blind, fun U hU hW => ⟨rfl, by rw [hU], by rw [hU]; exact hPc, va_K.moved hW.alike hK, hDc.weaken (fun _ _ _ _ => trivial), nestOK.warm hW hN⟩⟩ rfl hav (hl.1.trans hz) rfl (lv_room hcat) d hk) hS (fun q _ h => hFc q h) hFc (fun u t H1 locs1 ht hpo hB hz1 hk1 hS1 => ?_)
  obtain ⟨hP1, hD1⟩ := hB
  rw [ht, hw] at hP1
  rw [hw] at hD1
  obtain ⟨hP2, hD2⟩ := va_putL hP hD is hC hn (hf u) hk1 hFc hP1 hD1
  exact k u hpo H1 locs1 la hP2 hD2 hS1 hl
theorem Mach.invI (M : Mach l own nm b nL R G V) {a : Nat} {As : List Value} (C : Con l G y cy ny none rm (.ref a :: As) wc rv w1 post) (F : MI own idx y cy ny n) (is : List Nat) (hC : is.map (fun i => ws[i]?) = wc.map some) (hn : va_nd is = true) (hav : As.length = n) (hst : st = As.reverse ++ .ref a :: rest) (hcat : (rest.map fun v => v.category).sum ≤ 8) (hz : ls.length = nL) (hR : rm.frames + 1 ≤ R.frames ∧ 8 + (ny + 11) + rm.locals ≤ R.locals) (hk : kc + rm.cells ≤ R.cells ∧ ks + rm.slots ≤ R.slots)
    (wa wb : S → va_W) (hw : ∀ u, w1 u = wa u ++ wb u) (hf : ∀ u, (wa u).map Prod.fst = wc.map Prod.fst) (d : decode b pc = .ok (.invokespecial idx, 3)) (k : ∀ u, post u → V (kc + rm.cells) (ks + rm.slots) (pc + 3) (putL ws is (wa u) ++ wb u) ls ((rv u).toList ++ rest)) : V kc ks pc ws ls st := by
  obtain ⟨p, e, s, m, args, below, meth, c, A, Q, rfl, hx, hb, hml, hown, hts, hK, hN, hA, hnm⟩ := M
  intro H locs la hP hD hS hl
  subst hst
  have hPc : va_P G.1 vwCl wc H := by
    intro j q hq
    have h1 : (is.map (fun i => ws[i]?))[j]? = some (some q) := by rw [hC, List.getElem?_map, hq]; rfl
    rw [List.getElem?_map] at h1
    cases hi : is[j]? with
    | none => rw [hi] at h1; simp at h1
    | some i => rw [hi] at h1; simp at h1; exact hP i q h1
  have hDc : va_D A wc := hD.sub is hn hC
  have hFc := va_free (wc := wc) hD hS hA is hC
  refine va_callg (va_runI (As := As) (rest := rest) ⟨hx, hb, hml, hown, hts⟩ (C H.size) (cwI n hts (goodBig F.2.2.2.2.1) rfl rfl rfl (hts _ F.2.2.1) (hts _ F.1) (hts _ F.2.1) F.2.2.2.1 F.2.2.2.2.2 hR) ⟨con_blind, fun U hU hW => ⟨rfl, by rw [hU], by rw [hU]; exact hPc, va_K.moved hW.alike hK, hDc.weaken (fun _ _ _ _ => trivial), nestOK.warm hW hN⟩⟩ rfl hav (hl.1.trans hz) rfl (lv_room hcat) d hk) hS (fun q _ h => hFc q h) hFc (fun u t H1 locs1 ht hpo hB hz1 hk1 hS1 => ?_)
  obtain ⟨hP1, hD1⟩ := hB
  rw [ht, hw] at hP1
  rw [hw] at hD1
  obtain ⟨hP2, hD2⟩ := va_putL hP hD is hC hn (hf u) hk1 hFc hP1 hD1
  exact k u hpo H1 locs1 la hP2 hD2 hS1 hl
theorem Mach.invIN (M : Mach l own nm b nL R G V) {a : Nat} {As : List Value} {host : String} (C : Con l G y cy ny none rm (.ref a :: As) wc rv w1 post) (F : MIN own idx y host cy ny n) (is : List Nat) (hC : is.map (fun i => ws[i]?) = wc.map some) (hn : va_nd is = true) (hav : As.length = n) (hst : st = As.reverse ++ .ref a :: rest) (hcat : (rest.map fun v => v.category).sum ≤ 8) (hz : ls.length = nL) (hR : rm.frames + 1 ≤ R.frames ∧ 8 + (ny + 11) + rm.locals ≤ R.locals) (hk : kc + rm.cells ≤ R.cells ∧ ks + rm.slots ≤ R.slots)
    (wa wb : S → va_W) (hw : ∀ u, w1 u = wa u ++ wb u) (hf : ∀ u, (wa u).map Prod.fst = wc.map Prod.fst) (d : decode b pc = .ok (.invokespecial idx, 3)) (k : ∀ u, post u → V (kc + rm.cells) (ks + rm.slots) (pc + 3) (putL ws is (wa u) ++ wb u) ls ((rv u).toList ++ rest)) : V kc ks pc ws ls st := by
  obtain ⟨p, e, s, m, args, below, meth, c, A, Q, rfl, hx, hb, hml, hown, hts, hK, hN, hA, hnm⟩ := M
  intro H locs la hP hD hS hl
  subst hst
  have hPc : va_P G.1 vwCl wc H := by
    intro j q hq
    have h1 : (is.map (fun i => ws[i]?))[j]? = some (some q) := by rw [hC, List.getElem?_map, hq]; rfl
    rw [List.getElem?_map] at h1
    cases hi : is[j]? with
    | none => rw [hi] at h1; simp at h1
    | some i => rw [hi] at h1; simp at h1; exact hP i q h1
  have hDc : va_D A wc := hD.sub is hn hC
  have hFc := va_free (wc := wc) hD hS hA is hC
  refine va_callg (va_runIN (host := host) (As := As) (rest := rest) ⟨hx, hb, hml, hown, hts⟩ (C H.size) ⟨va_cnB n hts (goodBig F.2.2.2.2.1) rfl rfl rfl (hN _ F.1) (hts _ F.2.2.1) F.2.2.2.2.2 hR, F.2.2.2.1, hts _ F.2.1⟩ ⟨con_blind, fun U hU hW => ⟨rfl, by rw [hU], by rw [hU]; exact hPc, va_K.moved hW.alike hK, hDc.weaken (fun _ _ _ _ => trivial), nestOK.warm hW hN⟩⟩ rfl hav (hl.1.trans hz) rfl (lv_room hcat) d hk) hS (fun q _ h => hFc q h) hFc (fun u t H1 locs1 ht hpo hB hz1 hk1 hS1 => ?_)
  obtain ⟨hP1, hD1⟩ := hB
  rw [ht, hw] at hP1
  rw [hw] at hD1
  obtain ⟨hP2, hD2⟩ := va_putL hP hD is hC hn (hf u) hk1 hFc hP1 hD1
  exact k u hpo H1 locs1 la hP2 hD2 hS1 hl
end CALLS
