/-! STRING CONSTANTS: contracts of methods that read them; Z: where the three words and their bytes lie -/
abbrev ZT : Type := (Nat → Nat) × (Nat → Nat)
def lenJ : List Nat := [4, 6, 3]
def bytJ : List (List Int32) := [[98, 97, 116, 104], [98, 97, 116, 104, 101, 114], [111, 100, 100]]
def chJ (i k : Nat) : Int := ((([[98, 97, 116, 104], [98, 97, 116, 104, 101, 114], [111, 100, 100]] : List (List Int)).getD i []).getD k 0)
theorem chJ_ok : ∀ i, i < 3 → ∀ k, k < lenJ.getD i 0 → ((bytJ.getD i []).getD k 0) = iI (chJ i k) ∧ (0 ≤ chJ i k ∧ chJ i k < 128) := by decide +kernel
theorem lenJ_b : ∀ i, i < 3 → lenJ.getD i 0 ≤ 6 := by decide +kernel
def SOK (Z : ZT) (A : Nat → Prop) (U : State) (H : Heap) : Prop :=
  vk_S 3 lenJ bytJ Z.1 Z.2 A U H ∧ va_Z "java/lang/String" "COMPACT_STRINGS" "Z" (.int 1) A U H ∧ va_Zq "jdk/internal/util/Preconditions" "SIOOBE_FORMATTER" "Ljava/util/function/BiFunction;" A U H ∧
  vk_R RX5 52 "bath" (Z.1 0) U ∧ vk_R RX5 68 "bather" (Z.1 1) U ∧ vk_R RX5 76 "odd" (Z.1 2) U
theorem SOK.sub {Z : ZT} {A A' : Nat → Prop} {s U : State} {H : Heap} {locs : List Loc} (h : SOK Z A s s.heap) (hS : va_S A s.heap H locs) (hF : ∀ q, A' q → A q) (hU : U.heap = H) (hW : s.WarmedH U.vm) : SOK Z A' U U.heap := by
  obtain ⟨h1, h2, h3, h4, h5, h6⟩ := h
  rw [hU]
  exact ⟨vk_S.moved hW.alike ((h1.kept hS.2.1).narrow hF), va_Z.moved hW.alike ((h2.kept hS.2.1).narrow hF), va_Zq.moved hW.alike ((h3.kept hS.2.1).narrow hF), h4.warm hW, h5.warm hW, h6.warm hW⟩
theorem SOK.frame {Z : ZT} {A : Nat → Prop} {U : State} {g : JFrame} {mk : MethodId} {a : Array Value} (h : SOK Z A U U.heap) : SOK Z A (U.calling g mk a) (U.calling g mk a).heap := by
  obtain ⟨h1, h2, h3, h4, h5, h6⟩ := h
  exact ⟨vk_S.moved (u := U) (U := U.calling g mk a) (Vm.Alike.refl U.vm) h1, va_Z.moved (u := U) (U := U.calling g mk a) (Vm.Alike.refl U.vm) h2, va_Zq.moved (u := U) (U := U.calling g mk a) (Vm.Alike.refl U.vm) h3, h4.same (u := U) (U := U.calling g mk a) rfl, h5.same (u := U) (U := U.calling g mk a) rfl, h6.same (u := U) (U := U.calling g mk a) rfl⟩
def ConS (l : Launch) (G : GT) (Z : ZT) (y : MethodName) (cy : ByteArray) (ny : Nat) (ry : Option FieldType) (rm : Room) (av : List Value) (wc : va_W) {S : Type} (rv : S → Option Value) (w1 : S → va_W) (post : S → Prop) : Prop :=
  ∀ sz : Nat, Met l y (Cond.code y cy ny ry :: big) rm (va_Pc av (fun U => U.heap.size = sz ∧ va_P G.1 vwCl wc U.heap ∧ va_K G.1 vwCl (T4 G) U ∧ va_D (fun _ => True) wc ∧ nestOK U ∧ SOK Z (va_A wc sz) U U.heap))
    (Qg rv post (fun u t => va_P G.1 vwCl (w1 u) t.heap ∧ va_D (va_A wc sz) (w1 u)) (va_A wc sz)) rm.cells rm.slots (va_A wc sz)
abbrev ConFS (l : Launch) (G : GT) (Z : ZT) (y : MethodName) (cy : ByteArray) (ny : Nat) (ry : Option FieldType) (rm : Room) (av : List Value) (wc : va_W) (r : Option Value) : Prop :=
  ConS l G Z y cy ny ry rm av wc (S := Unit) (fun _ => r) (fun _ => wc) (fun _ => True)
def MachS (l : Launch) (own nm : String) (b : ByteArray) (nL : Nat) (R : Room) (G : GT) (Z : ZT) (V : VT) : Prop :=
  ∃ (p : Program) (e : Env) (s : State) (m : MethodId) (args : Array Value) (below : List Frame) (meth : Method) (c : Code) (A : Nat → Prop) (Q : State → Prop),
    V = Vq p l e R s m args below meth c A Q G ∧ p.tables.exec = Jvm.exec ∧ c.code = b ∧ c.maxLocals = nL ∧ s.vm.findClass own = some m.cls ∧ (∀ w ∈ big, w.before args s = true) ∧ va_K G.1 vwCl (T4 G) s ∧ nestOK s ∧ (∀ q, s.heap.size ≤ q → A q) ∧ meth.name = nm ∧ SOK Z A s s.heap
theorem MachS.m {l : Launch} {own nm : String} {b : ByteArray} {nL : Nat} {R : Room} {G : GT} {Z : ZT} {V : VT} (M : MachS l own nm b nL R G Z V) : Mach l own nm b nL R G V := by
  obtain ⟨p, e, s, m, args, below, meth, c, A, Q, h1, h2, h3, h4, h5, h6, h7, h8, h9, h10, h11⟩ := M
  exact ⟨p, e, s, m, args, below, meth, c, A, Q, h1, h2, h3, h4, h5, h6, h7, h8, h9, h10⟩
/-- narrow ends: a byte, a char -/
def EndN {S : Type} (b : ByteArray) (ry : Option FieldType) (rm : Room) (V : VT) (rv : S → Option Value) (w1 : S → va_W) (post : S → Prop) : Prop := ∀ (u : S) (z : Int) (pc : Nat) (ls : List (Option Value)) (ws : va_W), decode b pc = .ok (.ireturn, 1) → ((ry = some .byte ∧ narrow .byte (.int (iI z)) = .int (iI z)) ∨ (ry = some .char ∧ narrow .char (.int (iI z)) = .int (iI z))) → rv u = some (.int (iI z)) → ws = w1 u → post u → V rm.cells rm.slots pc ws ls [.int (iI z)]
theorem ConS.mk {l : Launch} {G : GT} {Z : ZT} {y : MethodName} {cy : ByteArray} {ny : Nat} {ry : Option FieldType} {rm : Room} {av : List Value} {wc : va_W} {S : Type} {rv : S → Option Value} {w1 : S → va_W} {post : S → Prop}
    (hy : plainName y.cls = true) (lo : List (Option Value)) (hlo : lo.length = ny) (hav : (lg_sl av).length ≤ ny) (hp : lo_pairs 0 lo = lv_args 0 av)
    (body : ∀ V : VT, MachS l y.cls y.name cy ny rm G Z V → EndI cy ry rm V rv w1 post → EndL cy ry rm V rv w1 post → EndV cy ry rm V rv w1 post → EndA cy ry rm V rv w1 post → EndN cy ry rm V rv w1 post → V 0 0 0 wc lo []) : ConS l G Z y cy ny ry rm av wc rv w1 post := by
  intro sz
  refine Met.ofW (cc := cy) (maxL := ny) (ret := ry) hy rfl ?_
  intro p e s m args below meth c s₁ B hml hv
  obtain ⟨rfl, hsz, hP, hK, hD0, hN, hZ⟩ := hv
  have hx := B.exec
  have hb := B.bytes
  have hr := B.returns
  have hts0 := atoms_spec (ws := Cond.code y cy ny ry :: big) B.pre
  have hts : ∀ w ∈ big, w.before av.toArray s = true := fun w h => hts0 w (List.mem_cons_of_mem _ h)
  have hown : s.vm.findClass y.cls = some m.cls := findClass_of_methodNamed B.named
  have hlocks := B.notSynchronized
  have hin : meth.name = y.name := (name_of_methodNamed B.named B.method).1
  subst hsz
  have hD := hD0.self (sz := s.heap.size)
  have hl := lv_entry av (n := ny) hav
  rw [lg_entry_eq]
  have hl2 : lo_has ((lg_sl av ++ List.replicate (ny - (lg_sl av).length) Slot.unset).toArray) lo := by
    unfold lo_has
    rw [hp, hlo]
    exact hl
  refine body (Vq p l e (headSpec (Cond.code y cy ny ry :: big) rm).room s m av.toArray below meth c (va_A wc s.heap.size) (MQ below (Qg rv post (fun u t => va_P G.1 vwCl (w1 u) t.heap ∧ va_D (va_A wc s.heap.size) (w1 u)) (va_A wc s.heap.size)) av.toArray s rm.cells rm.slots (va_A wc s.heap.size)) G)
    ⟨p, e, s, m, av.toArray, below, meth, c, _, _, rfl, hx, hb, hml, hown, hts, hK, hN, fun q h => Or.inr h, hin, hZ⟩ ?_ ?_ ?_ ?_ ?_ s.heap [] _ hP hD va_S.rf hl2
  · intro u z pc ls ws d hz hu hw hpo H locs la hP hD hS hl
    subst hw
    rcases hz with e1 | ⟨e1, e2⟩
    · refine W.iret (v := iI z) hx hb (hr.trans e1) (fun t ht hW => ⟨⟨u, by rw [hu], hpo, by rw [ht]; exact hP, hD⟩, hS.F ht⟩) hS.2.2 d hlocks
    · refine W.zret (v := iI z) (ty := .boolean) hx hb (hr.trans e1) ?_ (fun t ht hW => ⟨⟨u, by rw [hu], hpo, by rw [ht]; exact hP, hD⟩, hS.F ht⟩) hS.2.2 d hlocks
      rcases e2 with rfl | rfl <;> decide +kernel
  · intro u z pc ls ws d hz hu hw hpo H locs la hP hD hS hl
    subst hw
    exact W.lret (v := z) hx hb (hr.trans hz) (fun t ht hW => ⟨⟨u, by rw [hu], hpo, by rw [ht]; exact hP, hD⟩, hS.F ht⟩) hS.2.2 d hlocks
  · intro u pc ls ws d hz hu hw hpo H locs la hP hD hS hl
    subst hw
    exact W.vret hx hb (hr.trans hz) (fun t ht hW => ⟨⟨u, by rw [hu], hpo, by rw [ht]; exact hP, hD⟩, hS.F ht⟩) hS.2.2 d hlocks
  · intro u v pc ls ws d hz hv hu hw hpo H locs la hP hD hS hl
    subst hw
    obtain ⟨n, hz⟩ := hz
    exact W.aret (v := v) hx hb (hr.trans hz) (Or.inl ⟨n, rfl⟩) hv (fun t ht hW => ⟨⟨u, by rw [hu], hpo, by rw [ht]; exact hP, hD⟩, hS.F ht⟩) hS.2.2 d hlocks
  · intro u z pc ls ws d hz hu hw hpo H locs la hP hD hS hl
    subst hw
    rcases hz with ⟨e1, e2⟩ | ⟨e1, e2⟩
    · exact W.zret (v := iI z) (ty := .byte) hx hb (hr.trans e1) e2 (fun t ht hW => ⟨⟨u, by rw [hu], hpo, by rw [ht]; exact hP, hD⟩, hS.F ht⟩) hS.2.2 d hlocks
    · exact W.zret (v := iI z) (ty := .char) hx hb (hr.trans e1) e2 (fun t ht hW => ⟨⟨u, by rw [hu], hpo, by rw [ht]; exact hP, hD⟩, hS.F ht⟩) hS.2.2 d hlocks
theorem con_blindS {G : GT} {Z : ZT} {av : List Value} {sz : Nat} {wc : va_W} : FrameBlind (va_Pc av (fun U => U.heap.size = sz ∧ va_P G.1 vwCl wc U.heap ∧ va_K G.1 vwCl (T4 G) U ∧ va_D (fun _ => True) wc ∧ nestOK U ∧ SOK Z (va_A wc sz) U U.heap)) := by
  intro a U g mk q
  obtain ⟨q0, q1, q2, q3, q4, q5, q6⟩ := q
  exact ⟨q0, q1, q2, va_K.moved (u := U) (U := U.calling g mk a) (Vm.Alike.refl U.vm) q3, q4, nestOK.same (u := U) rfl q5, SOK.frame (g := g) (mk := mk) (a := a) q6⟩
section STRS
variable {l : Launch} {own nm : String} {b : ByteArray} {nL : Nat} {R : Room} {G : GT} {Z : ZT} {V : VT} {kc ks pc : Nat} {ws : va_W} {ls : List (Option Value)} {st rest : List Value}
variable {y : MethodName} {cy : ByteArray} {ny : Nat} {ry : Option FieldType} {rm : Room} {av : List Value} {wc : va_W} {S : Type} {rv : S → Option Value} {w1 : S → va_W} {post : S → Prop} {idx n : Nat}
theorem MachS.ldcS (M : MachS l own nm b nL R G Z V) {idx : Nat} {tx : String} {q : Nat} (hR : ∀ (A : Nat → Prop) (U : State), SOK Z A U U.heap → vk_R own idx tx q U) (d : decode b pc = .ok (.ldc idx, 2)) (k : V kc ks (pc + 2) ws ls (.ref q :: st)) : V kc ks pc ws ls st := by
  obtain ⟨p, e, s, m, args, below, meth, c, A, Q, rfl, hx, hb, hml, hown, hts, hK, hN, hA, hnm, hZ⟩ := M
  intro H locs la hP hD hS hl
  refine va_ldcS hx hb hown (hR A s hZ) d ?_
  exact k H locs la hP hD hS hl
theorem MachS.getV (M : MachS l own nm b nL R G Z V) {idx i : Nat} (hi : i < 3) (hw : Cond.fieldLink own idx "java/lang/String" "value" "[B" ∈ big) (d : decode b pc = .ok (.getfield idx, 3)) (k : V kc ks (pc + 3) ws ls (.ref (Z.2 i) :: st)) : V kc ks pc ws ls (.ref (Z.1 i) :: st) := by
  obtain ⟨p, e, s, m, args, below, meth, c, A, Q, rfl, hx, hb, hml, hown, hts, hK, hN, hA, hnm, hZ⟩ := M
  intro H locs la hP hD hS hl
  refine vk_getf hx hb ((hZ.1.1 i hi).2.2.1) hS hown (hts _ hw) (fun _ h => h) d ?_
  exact k H locs la hP hD hS hl
theorem MachS.getC (M : MachS l own nm b nL R G Z V) {idx i : Nat} (hi : i < 3) (hw : Cond.fieldLink own idx "java/lang/String" "coder" "B" ∈ big) (d : decode b pc = .ok (.getfield idx, 3)) (k : V kc ks (pc + 3) ws ls (.int (iI 0) :: st)) : V kc ks pc ws ls (.ref (Z.1 i) :: st) := by
  obtain ⟨p, e, s, m, args, below, meth, c, A, Q, rfl, hx, hb, hml, hown, hts, hK, hN, hA, hnm, hZ⟩ := M
  intro H locs la hP hD hS hl
  refine vk_getf hx hb ((hZ.1.1 i hi).2.1) hS hown (hts _ hw) (fun _ h => h) d ?_
  exact k H locs la hP hD hS hl
theorem MachS.getS (M : MachS l own nm b nL R G Z V) {idx : Nat} (hw : Cond.fieldLink own idx "java/lang/String" "COMPACT_STRINGS" "Z" ∈ big) (d : decode b pc = .ok (.getstatic idx, 3)) (k : V kc ks (pc + 3) ws ls (.int (iI 1) :: st)) : V kc ks pc ws ls st := by
  obtain ⟨p, e, s, m, args, below, meth, c, A, Q, rfl, hx, hb, hml, hown, hts, hK, hN, hA, hnm, hZ⟩ := M
  intro H locs la hP hD hS hl
  refine va_gets hx hb hZ.2.1 hS hown (hts _ hw) (fun _ h => h) d ?_
  exact k H locs la hP hD hS hl
theorem MachS.getQ (M : MachS l own nm b nL R G Z V) {idx : Nat} (hw : Cond.fieldLink own idx "jdk/internal/util/Preconditions" "SIOOBE_FORMATTER" "Ljava/util/function/BiFunction;" ∈ big) (d : decode b pc = .ok (.getstatic idx, 3)) (k : ∀ v : Value, (v = .null ∨ ∃ t, v = .ref t) → V kc ks (pc + 3) ws ls (v :: st)) : V kc ks pc ws ls st := by
  obtain ⟨p, e, s, m, args, below, meth, c, A, Q, rfl, hx, hb, hml, hown, hts, hK, hN, hA, hnm, hZ⟩ := M
  intro H locs la hP hD hS hl
  rcases hZ.2.2.1 with h | ⟨t, h⟩
  · refine va_gets hx hb h hS hown (hts _ hw) (fun _ h => h) d ?_
    exact k _ (Or.inl rfl) H locs la hP hD hS hl
  · refine va_gets hx hb h hS hown (hts _ hw) (fun _ h => h) d ?_
    exact k _ (Or.inr ⟨t, rfl⟩) H locs la hP hD hS hl
theorem MachS.tlen (M : MachS l own nm b nL R G Z V) {i : Nat} (hi : i < 3) (d : decode b pc = .ok (.arraylength, 1)) (k : V kc ks (pc + 1) ws ls (.int (iI (lenJ.getD i 0 : Nat)) :: st)) : V kc ks pc ws ls (.ref (Z.2 i) :: st) := by
  obtain ⟨p, e, s, m, args, below, meth, c, A, Q, rfl, hx, hb, hml, hown, hts, hK, hN, hA, hnm, hZ⟩ := M
  intro H locs la hP hD hS hl
  refine va_tlen hx hb ((hZ.1.1 i hi).2.2.2) hS (v := iI (lenJ.getD i 0 : Nat)) (iI_nat _).symm d ?_
  exact k H locs la hP hD hS hl
theorem MachS.tb (M : MachS l own nm b nL R G Z V) {i k0 : Nat} (hi : i < 3) (hk : k0 < lenJ.getD i 0) (d : decode b pc = .ok (.baload, 1)) (k : V kc ks (pc + 1) ws ls (.int (iI (chJ i k0)) :: st)) : V kc ks pc ws ls (.int (iI (k0 : Int)) :: .ref (Z.2 i) :: st) := by
  obtain ⟨p, e, s, m, args, below, meth, c, A, Q, rfl, hx, hb, hml, hown, hts, hK, hN, hA, hnm, hZ⟩ := M
  intro H locs la hP hD hS hl
  have hl6 := lenJ_b i hi
  have e : (iI (k0 : Int)).toNatClampNeg = k0 := by rw [iI_clamp (by omega) (by omega)]; omega
  refine va_tb hx hb ((hZ.1.1 i hi).2.2.2) hS (iI_in (n := lenJ.getD i 0) (by omega) (by omega) (by omega)) (v := .int (iI (chJ i k0))) ?_ d ?_
  · rw [e, (chJ_ok i hi k0 hk).1]
  · exact k H locs la hP hD hS hl
theorem MachS.invV (M : MachS l own nm b nL R G Z V) (C : ConS l G Z y cy ny ry rm av wc rv w1 post) (F : MV own idx y cy ny ry n) (is : List Nat) (hC : is.map (fun i => ws[i]?) = wc.map some) (hn : va_nd is = true) {a ci : Nat} {fs : List Value} {As : List Value} (heq : av = .ref a :: As) (q0 : Nat) {Tc : u_T} {Nc : Nat} (hcl : vwCl[ci]? = some (y.cls, Tc, Nc)) (hwr : ws[q0]? = some (a, eO ci fs)) (hav : As.length = n) (hst : st = As.reverse ++ .ref a :: rest) (hcat : (rest.map fun v => v.category).sum ≤ 8) (hz : ls.length = nL) (hR : rm.frames + 1 ≤ R.frames ∧ 8 + (ny + 11) + rm.locals ≤ R.locals) (hk : kc + rm.cells ≤ R.cells ∧ ks + rm.slots ≤ R.slots)
    (wa wb : S → va_W) (hw : ∀ u, w1 u = wa u ++ wb u) (hf : ∀ u, (wa u).map Prod.fst = wc.map Prod.fst) (d : decode b pc = .ok (.invokevirtual idx, 3)) (k : ∀ u, post u → V (kc + rm.cells) (ks + rm.slots) (pc + 3) (putL ws is (wa u) ++ wb u) ls ((rv u).toList ++ rest)) : V kc ks pc ws ls st := by
  obtain ⟨p, e, s, m, args, below, meth, c, A, Q, rfl, hx, hb, hml, hown, hts, hK, hN, hA, hnm, hZ⟩ := M
  intro H locs la hP hD hS hl
  subst hst
  subst heq
  have hPc : va_P G.1 vwCl wc H := by
    intro j q hq
    have h1 : (is.map (fun i => ws[i]?))[j]? = some (some q) := by rw [hC, List.getElem?_map, hq]; rfl
    rw [List.getElem?_map] at h1
    cases hi : is[j]? with
    | none => rw [hi] at h1; simp at h1
    | some i => rw [hi] at h1; simp at h1; exact hP i q h1
  have hDc : va_D A wc := hD.sub is hn hC
  have hFc := va_free (wc := wc) hD hS hA is hC
  refine va_callg (va_runV (C := y.cls) (As := As) (rest := rest) (b := a) ⟨hx, hb, hml, hown, hts⟩ (C H.size) ⟨callB_of n hts (goodBig F.2.2.2.2.1) rfl rfl rfl (hts _ F.2.2.2.1) (hts _ F.1) F.2.2.2.2.2 hR, hts _ F.2.1, hts _ F.2.2.1⟩ ⟨con_blindS, va_recv hK hP hcl hwr, fun U hU hW => ⟨rfl, by rw [hU], by rw [hU]; exact hPc, va_K.moved hW.alike hK, hDc.weaken (fun _ _ _ _ => trivial), nestOK.warm hW hN, hZ.sub hS hFc hU hW⟩⟩ rfl hav (hl.1.trans hz) rfl (lv_room hcat) d hk) hS (fun q _ h => hFc q h) hFc (fun u t H1 locs1 ht hpo hB hz1 hk1 hS1 => ?_)
  obtain ⟨hP1, hD1⟩ := hB
  rw [ht, hw] at hP1
  rw [hw] at hD1
  obtain ⟨hP2, hD2⟩ := va_putL hP hD is hC hn (hf u) hk1 hFc hP1 hD1
  exact k u hpo H1 locs1 la hP2 hD2 hS1 hl
theorem MachS.invK (M : MachS l own nm b nL R G Z V) (C : ConS l G Z y cy ny ry rm av wc rv w1 post) (F : MV own idx y cy ny ry n) (is : List Nat) (hC : is.map (fun i => ws[i]?) = wc.map some) (hn : va_nd is = true) {As : List Value} {i0 : Nat} (hi0 : i0 < 3) (heq : av = .ref (Z.1 i0) :: As) (hcl : y.cls = "java/lang/String") (hav : As.length = n) (hst : st = As.reverse ++ .ref (Z.1 i0) :: rest) (hcat : (rest.map fun v => v.category).sum ≤ 8) (hz : ls.length = nL) (hR : rm.frames + 1 ≤ R.frames ∧ 8 + (ny + 11) + rm.locals ≤ R.locals) (hk : kc + rm.cells ≤ R.cells ∧ ks + rm.slots ≤ R.slots)
    (wa wb : S → va_W) (hw : ∀ u, w1 u = wa u ++ wb u) (hf : ∀ u, (wa u).map Prod.fst = wc.map Prod.fst) (d : decode b pc = .ok (.invokevirtual idx, 3)) (k : ∀ u, post u → V (kc + rm.cells) (ks + rm.slots) (pc + 3) (putL ws is (wa u) ++ wb u) ls ((rv u).toList ++ rest)) : V kc ks pc ws ls st := by
  obtain ⟨p, e, s, m, args, below, meth, c, A, Q, rfl, hx, hb, hml, hown, hts, hK, hN, hA, hnm, hZ⟩ := M
  intro H locs la hP hD hS hl
  subst hst
  subst heq
  have hPc : va_P G.1 vwCl wc H := by
    intro j q hq
    have h1 : (is.map (fun i => ws[i]?))[j]? = some (some q) := by rw [hC, List.getElem?_map, hq]; rfl
    rw [List.getElem?_map] at h1
    cases hi : is[j]? with
    | none => rw [hi] at h1; simp at h1
    | some i => rw [hi] at h1; simp at h1; exact hP i q h1
  have hDc : va_D A wc := hD.sub is hn hC
  have hFc := va_free (wc := wc) hD hS hA is hC
  refine va_callg (va_runV (C := y.cls) (As := As) (rest := rest) (b := Z.1 i0) ⟨hx, hb, hml, hown, hts⟩ (C H.size) ⟨callB_of n hts (goodBig F.2.2.2.2.1) rfl rfl rfl (hts _ F.2.2.2.1) (hts _ F.1) F.2.2.2.2.2 hR, hts _ F.2.1, hts _ F.2.2.1⟩ ⟨con_blindS, (by rw [hcl]; exact vk_recv hZ.1 hi0 hS), fun U hU hW => ⟨rfl, by rw [hU], by rw [hU]; exact hPc, va_K.moved hW.alike hK, hDc.weaken (fun _ _ _ _ => trivial), nestOK.warm hW hN, hZ.sub hS hFc hU hW⟩⟩ rfl hav (hl.1.trans hz) rfl (lv_room hcat) d hk) hS (fun q _ h => hFc q h) hFc (fun u t H1 locs1 ht hpo hB hz1 hk1 hS1 => ?_)
  obtain ⟨hP1, hD1⟩ := hB
  rw [ht, hw] at hP1
  rw [hw] at hD1
  obtain ⟨hP2, hD2⟩ := va_putL hP hD is hC hn (hf u) hk1 hFc hP1 hD1
  exact k u hpo H1 locs1 la hP2 hD2 hS1 hl
theorem MachS.invS (M : MachS l own nm b nL R G Z V) (C : ConS l G Z y cy ny ry rm av wc rv w1 post) (F : MS own idx y cy ny ry n) (is : List Nat) (hC : is.map (fun i => ws[i]?) = wc.map some) (hn : va_nd is = true) (hav : av.length = n) (hst : st = av.reverse ++ rest) (hcat : (rest.map fun v => v.category).sum ≤ 8) (hz : ls.length = nL) (hR : rm.frames + 1 ≤ R.frames ∧ 8 + (ny + 11) + rm.locals ≤ R.locals) (hk : kc + rm.cells ≤ R.cells ∧ ks + rm.slots ≤ R.slots)
    (wa wb : S → va_W) (hw : ∀ u, w1 u = wa u ++ wb u) (hf : ∀ u, (wa u).map Prod.fst = wc.map Prod.fst) (d : decode b pc = .ok (.invokestatic idx, 3)) (k : ∀ u, post u → V (kc + rm.cells) (ks + rm.slots) (pc + 3) (putL ws is (wa u) ++ wb u) ls ((rv u).toList ++ rest)) : V kc ks pc ws ls st := by
  obtain ⟨p, e, s, m, args, below, meth, c, A, Q, rfl, hx, hb, hml, hown, hts, hK, hN, hA, hnm, hZ⟩ := M
  intro H locs la hP hD hS hl
  subst hst
  skip
  have hPc : va_P G.1 vwCl wc H := by
    intro j q hq
    have h1 : (is.map (fun i => ws[i]?))[j]? = some (some q) := by rw [hC, List.getElem?_map, hq]; rfl
    rw [List.getElem?_map] at h1
    cases hi : is[j]? with
    | none => rw [hi] at h1; simp at h1
    | some i => rw [hi] at h1; simp at h1; exact hP i q h1
  have hDc : va_D A wc := hD.sub is hn hC
  have hFc := va_free (wc := wc) hD hS hA is hC
  refine va_callg (va_runS (As := av) (rest := rest) ⟨hx, hb, hml, hown, hts⟩ (C H.size) ⟨callB_of n hts (goodBig F.2.2.2.1) rfl rfl rfl (hts _ F.2.2.1) (hts _ F.1) F.2.2.2.2 hR, hts _ F.2.1⟩ ⟨con_blindS, fun U hU hW => ⟨rfl, by rw [hU], by rw [hU]; exact hPc, va_K.moved hW.alike hK, hDc.weaken (fun _ _ _ _ => trivial), nestOK.warm hW hN, hZ.sub hS hFc hU hW⟩⟩ rfl hav (hl.1.trans hz) rfl (lv_room hcat) d hk) hS (fun q _ h => hFc q h) hFc (fun u t H1 locs1 ht hpo hB hz1 hk1 hS1 => ?_)
  obtain ⟨hP1, hD1⟩ := hB
  rw [ht, hw] at hP1
  rw [hw] at hD1
  obtain ⟨hP2, hD2⟩ := va_putL hP hD is hC hn (hf u) hk1 hFc hP1 hD1
  exact k u hpo H1 locs1 la hP2 hD2 hS1 hl
theorem MachS.pV (M : MachS l own nm b nL R G Z V) {r : Option Value} (C : ConFS l G Z y cy ny ry rm av wc r) (F : MV own idx y cy ny ry n) (is : List Nat) (hC : is.map (fun i => ws[i]?) = wc.map some) (hn : va_nd is = true) {a ci : Nat} {fs : List Value} {As : List Value} (heq : av = .ref a :: As) (q0 : Nat) (hwr : ws[q0]? = some (a, eO ci fs)) {Tc : u_T} {Nc : Nat} (hcl : vwCl[ci]? = some (y.cls, Tc, Nc)) (hav : As.length = n) (hst : st = As.reverse ++ .ref a :: rest) (hcat : (rest.map fun v => v.category).sum ≤ 8) (hz : ls.length = nL) (hR : rm.frames + 1 ≤ R.frames ∧ 8 + (ny + 11) + rm.locals ≤ R.locals) (hk : kc + rm.cells ≤ R.cells ∧ ks + rm.slots ≤ R.slots) (h0 : (rm.cells, rm.slots) = (0, 0))  (d : decode b pc = .ok (.invokevirtual idx, 3)) (k : V kc ks (pc + 3) ws ls (r.toList ++ rest)) : V kc ks pc ws ls st := by
  have e1 : rm.cells = 0 := congrArg Prod.fst h0
  have e2 : rm.slots = 0 := congrArg Prod.snd h0
  refine M.invV C F is hC hn heq q0 hcl hwr hav hst hcat hz hR hk (fun _ => wc) (fun _ => []) (fun _ => by rw [List.append_nil]) (fun _ => rfl) d (fun _ _ => ?_)
  rw [e1, e2, Nat.add_zero, Nat.add_zero, List.append_nil, putL_self is ws wc hC]
  exact k
theorem MachS.mV (M : MachS l own nm b nL R G Z V)  (C : ConS l G Z y cy ny ry rm av wc rv w1 post) (F : MV own idx y cy ny ry n) (is : List Nat) (hC : is.map (fun i => ws[i]?) = wc.map some) (hn : va_nd is = true) {a ci : Nat} {fs : List Value} {As : List Value} (heq : av = .ref a :: As) (q0 : Nat) (hwr : ws[q0]? = some (a, eO ci fs)) {Tc : u_T} {Nc : Nat} (hcl : vwCl[ci]? = some (y.cls, Tc, Nc)) (hav : As.length = n) (hst : st = As.reverse ++ .ref a :: rest) (hcat : (rest.map fun v => v.category).sum ≤ 8) (hz : ls.length = nL) (hR : rm.frames + 1 ≤ R.frames ∧ 8 + (ny + 11) + rm.locals ≤ R.locals) (hk : kc + rm.cells ≤ R.cells ∧ ks + rm.slots ≤ R.slots) (h0 : (rm.cells, rm.slots) = (0, 0)) (hf : ∀ u, (w1 u).map Prod.fst = wc.map Prod.fst) (d : decode b pc = .ok (.invokevirtual idx, 3)) (k : ∀ u, post u → V kc ks (pc + 3) (putL ws is (w1 u)) ls ((rv u).toList ++ rest)) : V kc ks pc ws ls st := by
  have e1 : rm.cells = 0 := congrArg Prod.fst h0
  have e2 : rm.slots = 0 := congrArg Prod.snd h0
  refine M.invV C F is hC hn heq q0 hcl hwr hav hst hcat hz hR hk w1 (fun _ => []) (fun _ => by rw [List.append_nil]) hf d (fun u hu => ?_)
  rw [e1, e2, Nat.add_zero, Nat.add_zero, List.append_nil]
  exact k u hu
theorem MachS.pK (M : MachS l own nm b nL R G Z V) {r : Option Value} (C : ConFS l G Z y cy ny ry rm av wc r) (F : MV own idx y cy ny ry n) (is : List Nat) (hC : is.map (fun i => ws[i]?) = wc.map some) (hn : va_nd is = true) {As : List Value} {i0 : Nat} (hi0 : i0 < 3) (heq : av = .ref (Z.1 i0) :: As) (hcl : y.cls = "java/lang/String") (hav : As.length = n) (hst : st = As.reverse ++ .ref (Z.1 i0) :: rest) (hcat : (rest.map fun v => v.category).sum ≤ 8) (hz : ls.length = nL) (hR : rm.frames + 1 ≤ R.frames ∧ 8 + (ny + 11) + rm.locals ≤ R.locals) (hk : kc + rm.cells ≤ R.cells ∧ ks + rm.slots ≤ R.slots) (h0 : (rm.cells, rm.slots) = (0, 0))  (d : decode b pc = .ok (.invokevirtual idx, 3)) (k : V kc ks (pc + 3) ws ls (r.toList ++ rest)) : V kc ks pc ws ls st := by
  have e1 : rm.cells = 0 := congrArg Prod.fst h0
  have e2 : rm.slots = 0 := congrArg Prod.snd h0
  refine M.invK C F is hC hn hi0 heq hcl hav hst hcat hz hR hk (fun _ => wc) (fun _ => []) (fun _ => by rw [List.append_nil]) (fun _ => rfl) d (fun _ _ => ?_)
  rw [e1, e2, Nat.add_zero, Nat.add_zero, List.append_nil, putL_self is ws wc hC]
  exact k
theorem MachS.pS (M : MachS l own nm b nL R G Z V) {r : Option Value} (C : ConFS l G Z y cy ny ry rm av wc r) (F : MS own idx y cy ny ry n) (is : List Nat) (hC : is.map (fun i => ws[i]?) = wc.map some) (hn : va_nd is = true) (hav : av.length = n) (hst : st = av.reverse ++ rest) (hcat : (rest.map fun v => v.category).sum ≤ 8) (hz : ls.length = nL) (hR : rm.frames + 1 ≤ R.frames ∧ 8 + (ny + 11) + rm.locals ≤ R.locals) (hk : kc + rm.cells ≤ R.cells ∧ ks + rm.slots ≤ R.slots) (h0 : (rm.cells, rm.slots) = (0, 0))  (d : decode b pc = .ok (.invokestatic idx, 3)) (k : V kc ks (pc + 3) ws ls (r.toList ++ rest)) : V kc ks pc ws ls st := by
  have e1 : rm.cells = 0 := congrArg Prod.fst h0
  have e2 : rm.slots = 0 := congrArg Prod.snd h0
  refine M.invS C F is hC hn hav hst hcat hz hR hk (fun _ => wc) (fun _ => []) (fun _ => by rw [List.append_nil]) (fun _ => rfl) d (fun _ _ => ?_)
  rw [e1, e2, Nat.add_zero, Nat.add_zero, List.append_nil, putL_self is ws wc hC]
  exact k
theorem Mach.i2c (M : Mach l own nm b nL R G V) {x : Int32} {z : Int} (h : (x.toUInt32 % 65536).toInt32 = iI z) (d : decode b pc = .ok (.i2c, 1)) (k : V kc ks (pc + 1) ws ls (.int (iI z) :: st)) : V kc ks pc ws ls (.int x :: st) := by
  obtain ⟨p, e, s, m, args, below, meth, c, A, Q, rfl, hx, hb, hml, hown, hts, hK, hN, hA, hnm⟩ := M
  intro H locs la hP hD hS hl
  refine lv_i2c (v := iI z) hx hb d h ?_
  exact k H locs la hP hD hS hl
end STRS
theorem jf_9 : Cond.fieldLink RJ0 9 "java/lang/String" "value" "[B" ∈ big := (mem_big (tk_5 (List.mem_of_getElem? (i := 227) rfl)) rfl)
theorem jf_15 : Cond.fieldLink RJ0 15 "java/lang/String" "coder" "B" ∈ big := (mem_big (tk_5 (List.mem_of_getElem? (i := 228) rfl)) rfl)
theorem jf_38 : Cond.fieldLink RJ0 38 "java/lang/String" "COMPACT_STRINGS" "Z" ∈ big := (mem_big (tk_2 (List.mem_of_getElem? (i := 56) rfl)) rfl)
theorem jf_1053 : Cond.fieldLink RJ0 1053 "jdk/internal/util/Preconditions" "SIOOBE_FORMATTER" "Ljava/util/function/BiFunction;" ∈ big := (mem_big (tk_2 (List.mem_of_getElem? (i := 72) rfl)) rfl)
set_option maxRecDepth 20000 in
theorem jm_335 : MV RJ0 335 yJ0_coder_7d493 cJ0_coder_7d493 1 (some .byte) 0 := ⟨(mem_big (tk_2 (List.mem_of_getElem? (i := 52) rfl)) rfl), (mem_big (tk_2 (List.mem_of_getElem? (i := 53) rfl)) rfl), (mem_big (tk_2 (List.mem_of_getElem? (i := 54) rfl)) rfl), (mem_big (tk_1 (List.mem_of_getElem? (i := 11) rfl)) rfl), (mem_big (tk_2 (List.mem_of_getElem? (i := 55) rfl)) rfl), ⟨by decide, by decide, by decide +kernel⟩⟩
set_option maxRecDepth 20000 in
theorem jm_492 : MV RJ0 492 yJ0_isLatin1_aae02 cJ0_isLatin1_aae02 1 (some .boolean) 0 := ⟨(mem_big (tk_2 (List.mem_of_getElem? (i := 62) rfl)) rfl), (mem_big (tk_2 (List.mem_of_getElem? (i := 63) rfl)) rfl), (mem_big (tk_2 (List.mem_of_getElem? (i := 64) rfl)) rfl), (mem_big (tk_1 (List.mem_of_getElem? (i := 11) rfl)) rfl), (mem_big (tk_2 (List.mem_of_getElem? (i := 65) rfl)) rfl), ⟨by decide, by decide, by decide +kernel⟩⟩
set_option maxRecDepth 20000 in
theorem jm_495 : MS RJ0 495 yJ1_charAt_3b067 cJ1_charAt_3b067 2 (some .char) 2 := ⟨(mem_big (tk_2 (List.mem_of_getElem? (i := 66) rfl)) rfl), (mem_big (tk_2 (List.mem_of_getElem? (i := 67) rfl)) rfl), (mem_big (tk_1 (List.mem_of_getElem? (i := 12) rfl)) rfl), (mem_big (tk_2 (List.mem_of_getElem? (i := 68) rfl)) rfl), ⟨by decide, by decide, by decide +kernel⟩⟩
set_option maxRecDepth 20000 in
theorem jm_9 : MS RJ1 9 yJ0_checkIndex_df160 cJ0_checkIndex_df160 2 none 2 := ⟨(mem_big (tk_2 (List.mem_of_getElem? (i := 69) rfl)) rfl), (mem_big (tk_2 (List.mem_of_getElem? (i := 70) rfl)) rfl), (mem_big (tk_1 (List.mem_of_getElem? (i := 11) rfl)) rfl), (mem_big (tk_2 (List.mem_of_getElem? (i := 71) rfl)) rfl), ⟨by decide, by decide, by decide +kernel⟩⟩
set_option maxRecDepth 20000 in
theorem jm_1059 : MS RJ0 1059 yJ3_checkIndex_8e157 cJ3_checkIndex_8e157 3 (some .int) 3 := ⟨(mem_big (tk_2 (List.mem_of_getElem? (i := 74) rfl)) rfl), (mem_big (tk_2 (List.mem_of_getElem? (i := 75) rfl)) rfl), (mem_big (tk_1 (List.mem_of_getElem? (i := 13) rfl)) rfl), (mem_big (tk_2 (List.mem_of_getElem? (i := 76) rfl)) rfl), ⟨by decide, by decide, by decide +kernel⟩⟩
set_option maxHeartbeats 4000000 in
set_option maxRecDepth 100000 in
theorem c_J3_checkIndex {l : Launch} {G : GT} {i n : Int} {v : Value} (hv : v = .null ∨ ∃ t, v = .ref t) (h0 : 0 ≤ i) (h1 : i < n) (hn : n < 2147483648) : ConF l G yJ3_checkIndex_8e157 cJ3_checkIndex_8e157 3 (some .int) { frames := 0, cells := 0, slots := 0, locals := 0 } [.int (iI i), .int (iI n), v] [] (some (.int (iI i))) := by
  rcases hv with rfl | ⟨t, rfl⟩
  · refine Con.mk (by decide +kernel) [some (.int (iI i)), some (.int (iI n)), some .null] rfl (Nat.le_of_ble_eq_true rfl) rfl ?_
    intro V M EI EL EV EA
    refine M.iloadn (pc := 0) 0 rfl rfl dJ3_checkIndex_8e157_0 ?_
    refine M.if_lt (pc := 1) (tgt := 9) dJ3_checkIndex_8e157_1 (by decide) (by omega) (fun c1 => absurd c1 (by omega)) (fun _ => ?_)
    refine M.iloadn (pc := 4) 0 rfl rfl dJ3_checkIndex_8e157_4 ?_
    refine M.iloadn (pc := 5) 1 rfl rfl dJ3_checkIndex_8e157_5 ?_
    refine M.icmp_lt (pc := 6) (tgt := 16) dJ3_checkIndex_8e157_6 (by decide) (by omega) (by omega) (fun _ => ?_) (fun c6 => absurd c6 (by omega))
    refine M.iloadn (pc := 16) 0 rfl rfl dJ3_checkIndex_8e157_16 ?_
    exact EI () _ _ _ _ dJ3_checkIndex_8e157_17 (Or.inl rfl) rfl rfl trivial
  · refine Con.mk (by decide +kernel) [some (.int (iI i)), some (.int (iI n)), some (.ref t)] rfl (Nat.le_of_ble_eq_true rfl) rfl ?_
    intro V M EI EL EV EA
    refine M.iloadn (pc := 0) 0 rfl rfl dJ3_checkIndex_8e157_0 ?_
    refine M.if_lt (pc := 1) (tgt := 9) dJ3_checkIndex_8e157_1 (by decide) (by omega) (fun c1 => absurd c1 (by omega)) (fun _ => ?_)
    refine M.iloadn (pc := 4) 0 rfl rfl dJ3_checkIndex_8e157_4 ?_
    refine M.iloadn (pc := 5) 1 rfl rfl dJ3_checkIndex_8e157_5 ?_
    refine M.icmp_lt (pc := 6) (tgt := 16) dJ3_checkIndex_8e157_6 (by decide) (by omega) (by omega) (fun _ => ?_) (fun c6 => absurd c6 (by omega))
    refine M.iloadn (pc := 16) 0 rfl rfl dJ3_checkIndex_8e157_16 ?_
    exact EI () _ _ _ _ dJ3_checkIndex_8e157_17 (Or.inl rfl) rfl rfl trivial
set_option maxHeartbeats 4000000 in
set_option maxRecDepth 100000 in
theorem c_J0_checkIndex {l : Launch} {G : GT} {Z : ZT} {i n : Int} (h0 : 0 ≤ i) (h1 : i < n) (hn : n < 2147483648) : ConFS l G Z yJ0_checkIndex_df160 cJ0_checkIndex_df160 2 none { frames := 1, cells := 0, slots := 0, locals := 22 } [.int (iI i), .int (iI n)] [] none := by
  refine ConS.mk (by decide +kernel) [some (.int (iI i)), some (.int (iI n))] rfl (Nat.le_of_ble_eq_true rfl) rfl ?_
  intro V MS EI EL EV EA EN
  have M := MS.m
  refine M.iloadn (pc := 0) 0 rfl rfl dJ0_checkIndex_df160_0 ?_
  refine M.iloadn (pc := 1) 1 rfl rfl dJ0_checkIndex_df160_1 ?_
  refine MS.getQ (pc := 2) jf_1053 dJ0_checkIndex_df160_2 (fun v hv => ?_)
  refine M.pS (pc := 5) (rest := []) (c_J3_checkIndex hv h0 h1 hn) jm_1059 [] rfl rfl rfl rfl (Nat.le_of_ble_eq_true rfl) rfl ⟨(Nat.le_of_ble_eq_true rfl), (Nat.le_of_ble_eq_true rfl)⟩ ⟨(Nat.le_of_ble_eq_true rfl), (Nat.le_of_ble_eq_true rfl)⟩ rfl dJ0_checkIndex_df160_5 ?_
  refine M.pop (pc := 8) rfl dJ0_checkIndex_df160_8 ?_
  exact EV () _ _ _ dJ0_checkIndex_df160_9 rfl rfl rfl trivial
theorem chJ_and {z : Int} (h : 0 ≤ z ∧ z < 128) : iI z &&& iI 255 = iI z ∧ ((iI z).toUInt32 % 65536).toInt32 = iI z ∧ narrow .char (.int (iI z)) = .int (iI z) := by
  have : ∀ n, n < 128 → iI ((n : Nat) : Int) &&& iI 255 = iI ((n : Nat) : Int) ∧ ((iI ((n : Nat) : Int)).toUInt32 % 65536).toInt32 = iI ((n : Nat) : Int) ∧ narrow .char (.int (iI ((n : Nat) : Int))) = .int (iI ((n : Nat) : Int)) := by decide +kernel
  have h2 := this z.toNat (by omega)
  rw [show ((z.toNat : Nat) : Int) = z by omega] at h2
  exact h2
set_option maxHeartbeats 4000000 in
set_option maxRecDepth 100000 in
theorem c_J1_charAt {l : Launch} {G : GT} {Z : ZT} {i k : Nat} (hi : i < 3) (hk : k < lenJ.getD i 0) : ConFS l G Z yJ1_charAt_3b067 cJ1_charAt_3b067 2 (some .char) { frames := 2, cells := 0, slots := 0, locals := 43 } [.ref (Z.2 i), .int (iI (k : Int))] [] (some (.int (iI (chJ i k)))) := by
  refine ConS.mk (by decide +kernel) [some (.ref (Z.2 i)), some (.int (iI (k : Int)))] rfl (Nat.le_of_ble_eq_true rfl) rfl ?_
  intro V MS EI EL EV EA EN
  have M := MS.m
  have hl6 := lenJ_b i hi
  have hc := chJ_and (chJ_ok i hi k hk).2
  refine M.iloadn (pc := 0) 1 rfl rfl dJ1_charAt_3b067_0 ?_
  refine M.aloadn (pc := 1) 0 rfl rfl dJ1_charAt_3b067_1 ?_
  refine MS.tlen (pc := 2) hi dJ1_charAt_3b067_2 ?_
  refine MS.pS (pc := 3) (rest := []) (c_J0_checkIndex (i := (k : Int)) (n := (lenJ.getD i 0 : Nat)) (by omega) (by omega) (by omega)) jm_9 [] rfl rfl rfl rfl (Nat.le_of_ble_eq_true rfl) rfl ⟨(Nat.le_of_ble_eq_true rfl), (Nat.le_of_ble_eq_true rfl)⟩ ⟨(Nat.le_of_ble_eq_true rfl), (Nat.le_of_ble_eq_true rfl)⟩ rfl dJ1_charAt_3b067_3 ?_
  refine M.aloadn (pc := 6) 0 rfl rfl dJ1_charAt_3b067_6 ?_
  refine M.iloadn (pc := 7) 1 rfl rfl dJ1_charAt_3b067_7 ?_
  refine MS.tb (pc := 8) hi hk dJ1_charAt_3b067_8 ?_
  refine M.sipush (pc := 9) (by decide +kernel) dJ1_charAt_3b067_9 ?_
  refine M.iand (pc := 12) hc.1 dJ1_charAt_3b067_12 ?_
  refine M.i2c (pc := 13) hc.2.1 dJ1_charAt_3b067_13 ?_
  exact EN () _ _ _ _ dJ1_charAt_3b067_14 (Or.inr ⟨rfl, hc.2.2⟩) rfl rfl trivial
set_option maxHeartbeats 4000000 in
set_option maxRecDepth 100000 in
theorem c_J0_isLatin1 {l : Launch} {G : GT} {Z : ZT} {i : Nat} (hi : i < 3) : ConFS l G Z yJ0_isLatin1_aae02 cJ0_isLatin1_aae02 1 (some .boolean) { frames := 0, cells := 0, slots := 0, locals := 0 } [.ref (Z.1 i)] [] (some (.int (iI 1))) := by
  refine ConS.mk (by decide +kernel) [some (.ref (Z.1 i))] rfl (Nat.le_of_ble_eq_true rfl) rfl ?_
  intro V MS EI EL EV EA EN
  have M := MS.m
  refine MS.getS (pc := 0) jf_38 dJ0_isLatin1_aae02_0 ?_
  refine M.if_eq (pc := 3) (tgt := 17) dJ0_isLatin1_aae02_3 (by decide) (by omega) (fun c => absurd c (by omega)) (fun _ => ?_)
  refine M.aloadn (pc := 6) 0 rfl rfl dJ0_isLatin1_aae02_6 ?_
  refine MS.getC (pc := 7) hi jf_15 dJ0_isLatin1_aae02_7 ?_
  refine M.if_ne (pc := 10) (tgt := 17) dJ0_isLatin1_aae02_10 (by decide) (by omega) (fun c => absurd rfl c) (fun _ => ?_)
  refine M.iconst (pc := 13) dJ0_isLatin1_aae02_13 ?_
  refine M.goto (pc := 14) (tgt := 18) dJ0_isLatin1_aae02_14 (by decide) ?_
  exact EI () _ _ _ _ dJ0_isLatin1_aae02_18 (Or.inr ⟨rfl, Or.inr rfl⟩) rfl rfl trivial
set_option maxHeartbeats 4000000 in
set_option maxRecDepth 100000 in
theorem c_J0_coder {l : Launch} {G : GT} {Z : ZT} {i : Nat} (hi : i < 3) : ConFS l G Z yJ0_coder_7d493 cJ0_coder_7d493 1 (some .byte) { frames := 0, cells := 0, slots := 0, locals := 0 } [.ref (Z.1 i)] [] (some (.int (iI 0))) := by
  refine ConS.mk (by decide +kernel) [some (.ref (Z.1 i))] rfl (Nat.le_of_ble_eq_true rfl) rfl ?_
  intro V MS EI EL EV EA EN
  have M := MS.m
  refine MS.getS (pc := 0) jf_38 dJ0_coder_7d493_0 ?_
  refine M.if_eq (pc := 3) (tgt := 13) dJ0_coder_7d493_3 (by decide) (by omega) (fun c => absurd c (by omega)) (fun _ => ?_)
  refine M.aloadn (pc := 6) 0 rfl rfl dJ0_coder_7d493_6 ?_
  refine MS.getC (pc := 7) hi jf_15 dJ0_coder_7d493_7 ?_
  refine M.goto (pc := 10) (tgt := 14) dJ0_coder_7d493_10 (by decide) ?_
  exact EN () _ _ _ _ dJ0_coder_7d493_14 (Or.inl ⟨rfl, by decide +kernel⟩) rfl rfl trivial
set_option maxHeartbeats 4000000 in
set_option maxRecDepth 100000 in
theorem c_J0_length {l : Launch} {G : GT} {Z : ZT} {i : Nat} (hi : i < 3) : ConFS l G Z yJ0_length_8abf5 cJ0_length_8abf5 1 (some .int) { frames := 1, cells := 0, slots := 0, locals := 20 } [.ref (Z.1 i)] [] (some (.int (iI (lenJ.getD i 0 : Nat)))) := by
  refine ConS.mk (by decide +kernel) [some (.ref (Z.1 i))] rfl (Nat.le_of_ble_eq_true rfl) rfl ?_
  intro V MS EI EL EV EA EN
  have M := MS.m
  refine M.aloadn (pc := 0) 0 rfl rfl dJ0_length_8abf5_0 ?_
  refine MS.getV (pc := 1) hi jf_9 dJ0_length_8abf5_1 ?_
  refine MS.tlen (pc := 4) hi dJ0_length_8abf5_4 ?_
  refine M.aloadn (pc := 5) 0 rfl rfl dJ0_length_8abf5_5 ?_
  refine MS.pK (pc := 6) (c_J0_coder hi) jm_335 [] rfl rfl hi rfl rfl rfl rfl (Nat.le_of_ble_eq_true rfl) rfl ⟨(Nat.le_of_ble_eq_true rfl), (Nat.le_of_ble_eq_true rfl)⟩ ⟨(Nat.le_of_ble_eq_true rfl), (Nat.le_of_ble_eq_true rfl)⟩ rfl dJ0_length_8abf5_6 ?_
  refine M.ishr (pc := 9) (z := (lenJ.getD i 0 : Nat)) ?_ dJ0_length_8abf5_9 ?_
  · have : ∀ i, i < 3 → iI (lenJ.getD i 0 : Nat) >>> (iI 0 &&& 31) = iI (lenJ.getD i 0 : Nat) := by decide +kernel
    exact this i hi
  exact EI () _ _ _ _ dJ0_length_8abf5_10 (Or.inl rfl) rfl rfl trivial
set_option maxHeartbeats 4000000 in
set_option maxRecDepth 100000 in
theorem c_J0_charAt {l : Launch} {G : GT} {Z : ZT} {i k : Nat} (hi : i < 3) (hk : k < lenJ.getD i 0) : ConFS l G Z yJ0_charAt_5068e cJ0_charAt_5068e 2 (some .char) { frames := 3, cells := 0, slots := 0, locals := 64 } [.ref (Z.1 i), .int (iI (k : Int))] [] (some (.int (iI (chJ i k)))) := by
  refine ConS.mk (by decide +kernel) [some (.ref (Z.1 i)), some (.int (iI (k : Int)))] rfl (Nat.le_of_ble_eq_true rfl) rfl ?_
  intro V MS EI EL EV EA EN
  have M := MS.m
  have hc := chJ_and (chJ_ok i hi k hk).2
  refine M.aloadn (pc := 0) 0 rfl rfl dJ0_charAt_5068e_0 ?_
  refine MS.pK (pc := 1) (c_J0_isLatin1 hi) jm_492 [] rfl rfl hi rfl rfl rfl rfl (Nat.le_of_ble_eq_true rfl) rfl ⟨(Nat.le_of_ble_eq_true rfl), (Nat.le_of_ble_eq_true rfl)⟩ ⟨(Nat.le_of_ble_eq_true rfl), (Nat.le_of_ble_eq_true rfl)⟩ rfl dJ0_charAt_5068e_1 ?_
  refine M.if_eq (pc := 4) (tgt := 16) dJ0_charAt_5068e_4 (by decide) (by omega) (fun c => absurd c (by omega)) (fun _ => ?_)
  refine M.aloadn (pc := 7) 0 rfl rfl dJ0_charAt_5068e_7 ?_
  refine MS.getV (pc := 8) hi jf_9 dJ0_charAt_5068e_8 ?_
  refine M.iloadn (pc := 11) 1 rfl rfl dJ0_charAt_5068e_11 ?_
  refine MS.pS (pc := 12) (rest := []) (c_J1_charAt hi hk) jm_495 [] rfl rfl rfl rfl (Nat.le_of_ble_eq_true rfl) rfl ⟨(Nat.le_of_ble_eq_true rfl), (Nat.le_of_ble_eq_true rfl)⟩ ⟨(Nat.le_of_ble_eq_true rfl), (Nat.le_of_ble_eq_true rfl)⟩ rfl dJ0_charAt_5068e_12 ?_
  exact EN () _ _ _ _ dJ0_charAt_5068e_15 (Or.inr ⟨rfl, hc.2.2⟩) rfl rfl trivial
