/-! THE CLAIM OUT OF ONE WALK OF THE LAW'S BODY. Your part is whole_start (and what it stands on); all else here is the same for every law, but numbers. -/
def R_law : String := "BathWaterLaw"
def lw_P (b : Addr) (xs : List Int32) (args : Array Value) (s : State) : Prop := args = #[.ref b] ∧ s.IntsAt b xs ∧ xs.length ≤ 320 ∧ (Jvm.Cond.and given_1 narrow_1).before args s = true
def lw_Q (_ : Array Value) (s : State) (o : Outcome) (t : State) : Prop := o = .returned (some (.int 1)) ∧ Framed s o t [] 600000 7302250
def lw_Z (below : List Frame) (a : Array Value) (s : State) : State → Prop := fun t => ∃ o, t.status = .running ∧ Ended t below o ∧ lw_Q a s o t
/-- the law's own end, with 1 on the stack, nothing written that was there before, its room as the claim has it -/
theorem lw_ret {p : Program} {l : Launch} {e : Env} {s : State} {m : MethodId} {below : List Frame} {meth : Method} {c : Code} {b : Nat} (hx : p.tables.exec = Jvm.exec) (hb : c.code = code) (hr : meth.sig.returnType = ret) (hlocks : meth.locks = false) {pc : Nat} {H : Heap} {ls : Array Slot} (hdg : decode code pc = .ok (.ireturn, 1)) : W p l e room_1 s m #[Value.ref b] below meth c H [] 600000 7302250 (lw_Z below #[Value.ref b] s) (F0 m pc ls [.int 1]) := by
  intro T hT X
  obtain ⟨fs, hret, hrun, hended, hW, hframe⟩ := X.leave (v := some (.int 1)) (hlocks := hlocks) (fun h => by rw [hr] at h; cases h)
  have hmeth' : T.vm.method? m = some meth := X.method'
  refine ⟨T.setFrames fs, ?_, .returned (some (.int 1)), hrun, hended, rfl, ⟨_, rfl⟩, hW, hframe⟩
  jvm_step X.here [X.here.top, hx, hb, hdg, hmeth', hr, ret, narrow_b1]
  (try refine ⟨rfl, ?_⟩); (try refine ⟨rfl, ?_⟩)
  first | (intro acts; rw [hret _ acts rfl rfl rfl]) | rw [hret _ _ rfl rfl rfl]
  exact Steps.refl _
/-- what holds at the law's entry: the machine, the code, the tables' words (any of lw_tbl by 'hts w (by decide +kernel)'), the script of L ints xs at the cell b, what the Statement gives of the start (any of its parts by flat_of_before) -/
def lw_At (p : Program) (s : State) (m : MethodId) (meth : Method) (c : Code) (b L : Nat) (xs : Nat → Int32) : Prop :=
  p.tables.exec = Jvm.exec ∧ c.code = code ∧ meth.sig.returnType = ret ∧ c.maxLocals = 4 ∧ s.vm.findClass R_law = some m.cls ∧ (∀ w ∈ lw_tbl, w.before #[Value.ref b] s = true) ∧ va_X b L xs s s.heap ∧ b < s.heap.size ∧ meth.locks = false ∧ (Jvm.Cond.and given_1 narrow_1).before #[Value.ref b] s = true
/-! the law's own walk -/
def lwA (s : State) : Nat → Prop := fun q => s.heap.size ≤ q
def MachL (l : Launch) (nm : String) (b0 L : Nat) (xs : Nat → Int32) (G : GT) (Z : ZT) (V : VT) : Prop :=
  ∃ (p : Program) (e : Env) (s : State) (m : MethodId) (below : List Frame) (meth : Method) (c : Code),
    V = Vq p l e room_1 s m #[Value.ref b0] below meth c (lwA s) (lw_Z below #[Value.ref b0] s) G ∧ p.tables.exec = Jvm.exec ∧ c.code = cL_law ∧ c.maxLocals = 4 ∧ s.vm.findClass RL = some m.cls ∧ (∀ w ∈ big, w.before #[Value.ref b0] s = true) ∧ va_K G.1 vwCl (T4 G) s ∧ nestOK s ∧ meth.name = nm ∧ SOK Z (lwA s) s s.heap ∧ va_X b0 L xs s s.heap ∧ b0 < s.heap.size ∧ meth.sig.returnType = ret ∧ meth.locks = false
theorem MachL.ms {l : Launch} {nm : String} {b0 L : Nat} {xs : Nat → Int32} {G : GT} {Z : ZT} {V : VT} (ML : MachL l nm b0 L xs G Z V) : MachS l RL nm cL_law 4 room_1 G Z V := by
  obtain ⟨p, e, s, m, below, meth, c, h1, hx, hb, hml, hown, hts, hK, hN, hnm, hZ, hX, hbl, hr, hlk⟩ := ML
  exact ⟨p, e, s, m, #[Value.ref b0], below, meth, c, lwA s, lw_Z below #[Value.ref b0] s, h1, hx, hb, hml, hown, hts, hK, hN, fun q h => h, hnm, hZ⟩
def sc (xs : Nat → Int32) (i : Int) : Int := (xs i.toNat).toInt
theorem sc_R (xs : Nat → Int32) (i : Int) : InR (sc xs i) := iI_r _
section LAWROWS
variable {l : Launch} {nm : String} {b0 L : Nat} {xs : Nat → Int32} {G : GT} {Z : ZT} {V : VT} {kc ks pc : Nat} {ws : va_W} {ls : List (Option Value)} {st : List Value}
theorem MachL.sld (ML : MachL l nm b0 L xs G Z V) {i : Int} (h0 : 0 ≤ i ∧ i < (L : Int)) (hL : L ≤ 320) (d : decode cL_law pc = .ok (.iaload, 1)) (k : V kc ks (pc + 1) ws ls (.int (iI (sc xs i)) :: st)) : V kc ks pc ws ls (.int (iI i) :: .ref b0 :: st) := by
  obtain ⟨p, e, s, m, below, meth, c, rfl, hx, hb, hml, hown, hts, hK, hN, hnm, hZ, hX, hbl, hr, hlk⟩ := ML
  intro H locs la hP hD hS hl
  refine va_sld hx hb hX hbl (Nat.not_le.mpr hbl) hS (iI_in h0.1 h0.2 (by omega)) d ?_
  have e : Value.int (xs (iI i).toNatClampNeg) = .int (iI (sc xs i)) := by
    rw [iI_clamp h0.1 (by omega)]
    exact congrArg Value.int (iI_of _)
  rw [e]
  exact k H locs la hP hD hS hl
theorem MachL.slen (ML : MachL l nm b0 L xs G Z V) (d : decode cL_law pc = .ok (.arraylength, 1)) (k : V kc ks (pc + 1) ws ls (.int (iI (L : Int)) :: st)) : V kc ks pc ws ls (.ref b0 :: st) := by
  obtain ⟨p, e, s, m, below, meth, c, rfl, hx, hb, hml, hown, hts, hK, hN, hnm, hZ, hX, hbl, hr, hlk⟩ := ML
  intro H locs la hP hD hS hl
  refine va_slen hx hb hX hbl (Nat.not_le.mpr hbl) hS d ?_
  have e : Value.int (Int32.ofNat L) = .int (iI (L : Int)) := congrArg Value.int (iI_nat L).symm
  rw [e]
  exact k H locs la hP hD hS hl
theorem MachL.ret (ML : MachL l nm b0 L xs G Z V) (hk : kc ≤ 600000 ∧ ks ≤ 7302250) (d : decode cL_law pc = .ok (.ireturn, 1)) : V kc ks pc ws ls [.int (iI 1)] := by
  obtain ⟨p, e, s, m, below, meth, c, rfl, hx, hb, hml, hown, hts, hK, hN, hnm, hZ, hX, hbl, hr, hlk⟩ := ML
  intro H locs la hP hD hS hl
  refine va_forget (fun q hq => hS.2.2 q hq) ?_
  refine W.widen hk.1 hk.2 ?_
  exact lw_ret hx hb hr hlk d
theorem Mach.icmp_same {own : String} {b : ByteArray} {nL : Nat} {R : Room} (M : Mach l own nm b nL R G V) {x y : Int} {off : Int} {tgt : Nat} (h : x = y) (d : decode b pc = .ok (.if_icmp .eq off, 3)) (ht : (pc : Int) + off = (tgt : Int)) (k : V kc ks tgt ws ls st) : V kc ks pc ws ls (.int (iI y) :: .int (iI x) :: st) := by
  obtain ⟨p, e, s, m, args, below, meth, c, A, Q, rfl, hx, hb, hml, hown, hts, hK, hN, hA, hnm⟩ := M
  intro H locs la hP hD hS hl
  subst h
  exact lv_icmp_eq hx hb d ht (fun _ => k H locs la hP hD hS hl) (fun hne => absurd rfl hne)
theorem Mach.perm {own : String} {b : ByteArray} {nL : Nat} {R : Room} (M : Mach l own nm b nL R G V) (ws' : va_W) (is : List Nat) (hC : is.map (fun i => ws[i]?) = ws'.map some) (hn : va_nd is = true) (k : V kc ks pc ws' ls st) : V kc ks pc ws ls st := by
  obtain ⟨p, e, s, m, args, below, meth, c, A, Q, rfl, hx, hb, hml, hown, hts, hK, hN, hA, hnm⟩ := M
  intro H locs la hP hD hS hl
  have hPc : va_P G.1 vwCl ws' H := by
    intro j q hq
    have h1 : (is.map (fun i => ws[i]?))[j]? = some (some q) := by rw [hC, List.getElem?_map, hq]; rfl
    rw [List.getElem?_map] at h1
    cases hi : is[j]? with
    | none => rw [hi] at h1; simp at h1
    | some i => rw [hi] at h1; simp at h1; exact hP i q h1
  exact k H locs la hPc (hD.sub is hn hC) hS hl
end LAWROWS
