/-! MAKING: objects, arrays; the constructors -/
section MAKING
variable {l : Launch} {own nm : String} {b : ByteArray} {nL : Nat} {R : Room} {G : GT} {V : VT} {kc ks pc : Nat} {ws : va_W} {ls : List (Option Value)} {st : List Value}
theorem Mach.new (M : Mach l own nm b nL R G V) {C : String} {T : u_T} {N ci idx : Nat} (ty : Nat → FieldType) (hty : ∀ k, k < N → parseFieldDescriptor (T k).2.2.1 = some (ty k)) (hw : ∀ w ∈ u_ws C T N, w ∈ big) (hcl : Cond.classLink own idx C ∈ big) (hin : Cond.instantiable C N ∈ big) (hini : Cond.initialized C ∈ big) (hc : vwCl[ci]? = some (C, T, N)) {fs : List Value} (hfs : ∀ j, j < N → defaultValue (ty j) = vp_V fs j) (hk : kc + 1 ≤ R.cells ∧ ks + N ≤ R.slots) (d : decode b pc = .ok (.new idx, 3)) (k : ∀ q, V (kc + 1) (ks + N) (pc + 3) (ws ++ [(q, eO ci fs)]) ls (.ref q :: st)) : V kc ks pc ws ls st := by
  obtain ⟨p, e, s, m, args, below, meth, c, A, Q, rfl, hx, hb, hml, hown, hts, hK, hN, hA, hnm⟩ := M
  intro H locs la hP hD hS hl
  exact va_new hx hb hts hw ty hty hown (hts _ hcl) (hts _ hin) (hts _ hini) hK hP hD hS hA hc hfs hk.1 hk.2 d (fun q H1 hP1 hD1 hS1 => k q H1 locs la hP1 hD1 hS1 hl)
theorem Mach.objI (M : Mach l own nm b nL R G V) {idx a : Nat} (hlk : Cond.methodLink own idx objectInit ∈ big) (hcd : Cond.code objectInit ⟨#[0xb1]⟩ 1 none ∈ big) (hz : ls.length = nL) (hR : 1 ≤ R.frames ∧ 2 * 0 + (st.map fun v => v.category).sum + 12 ≤ R.locals) (d : decode b pc = .ok (.invokespecial idx, 3)) (k : V kc ks (pc + 3) ws ls st) : V kc ks pc ws ls (.ref a :: st) := by
  obtain ⟨p, e, s, m, args, below, meth, c, A, Q, rfl, hx, hb, hml, hown, hts, hK, hN, hA, hnm⟩ := M
  intro H locs la hP hD hS hl
  exact W.objInit hx hb hown (hts _ hlk) (hts _ ob_inst) (hts _ hcd) rfl (by rw [hml]; exact hl.1.trans hz) rfl d hR.1 hR.2 (k H locs la hP hD hS hl)
theorem Mach.newaI (M : Mach l own nm b nL R G V) {n : Int} {N : Nat} (hn : n = (N : Int)) (hN9 : N ≤ 10000) (hw : Cond.arrayClass .int ∈ big) (hk : kc + 1 ≤ R.cells ∧ ks + N ≤ R.slots) (d : decode b pc = .ok (.newarray .int, 2)) (k : ∀ q, V (kc + 1) (ks + N) (pc + 2) (ws ++ [(q, eI G N (fun _ => 0))]) ls (.ref q :: st)) : V kc ks pc ws ls (.int (iI n) :: st) := by
  obtain ⟨p, e, s, m, args, below, meth, c, A, Q, rfl, hx, hb, hml, hown, hts, hK, hN, hA, hnm⟩ := M
  intro H locs la hP hD hS hl
  subst hn
  have hby : N * componentBytes (.int : FieldType) ≤ 536870912 := Nat.le_trans (Nat.mul_le_mul hN9 (show componentBytes (.int : FieldType) ≤ 8 by decide)) (by decide)
  have hc : (iI (N : Int)).toNatClampNeg = N := by rw [iI_clamp (by omega) (by omega)]; omega
  have hg : ¬ iI (N : Int) < 0 := by rw [← iI_0, iI_lt ⟨by omega, by omega⟩ ⟨by omega, by omega⟩]; omega
  refine va_newa (atype := .int) (ty := .int) (a0 := (N, .inl (fun _ => iI 0))) hx hb (hts _ hw) rfl hK hP hD hS hA (fun cA => by rw [iI_0]; rfl) hg hc hby hk.1 hk.2 d (fun q cA H1 hK1 hP1 hD1 hS1 => ?_)
  have h1 : s.vm.findClass ("[" ++ (FieldType.int).toString) = some G.2.1 := (hK.2 0 (G.2.1, .int) rfl).2
  have h2 : s.vm.findClass ("[" ++ (FieldType.int).toString) = some cA := (hK1.2 4 (cA, .int) rfl).2
  have h3 : cA = G.2.1 := by rw [h1] at h2; exact (Option.some.inj h2).symm
  subst h3
  exact k q H1 locs la hP1 hD1 hS1 hl
theorem Mach.newaB (M : Mach l own nm b nL R G V) {n : Int} {N : Nat} (hn : n = (N : Int)) (hN9 : N ≤ 10000) (hw : Cond.arrayClass .byte ∈ big) (hk : kc + 1 ≤ R.cells ∧ ks + N ≤ R.slots) (d : decode b pc = .ok (.newarray .byte, 2)) (k : ∀ q, V (kc + 1) (ks + N) (pc + 2) (ws ++ [(q, eB G N (fun _ => 0))]) ls (.ref q :: st)) : V kc ks pc ws ls (.int (iI n) :: st) := by
  obtain ⟨p, e, s, m, args, below, meth, c, A, Q, rfl, hx, hb, hml, hown, hts, hK, hN, hA, hnm⟩ := M
  intro H locs la hP hD hS hl
  subst hn
  have hby : N * componentBytes (.byte : FieldType) ≤ 536870912 := Nat.le_trans (Nat.mul_le_mul hN9 (show componentBytes (.byte : FieldType) ≤ 8 by decide)) (by decide)
  have hc : (iI (N : Int)).toNatClampNeg = N := by rw [iI_clamp (by omega) (by omega)]; omega
  have hg : ¬ iI (N : Int) < 0 := by rw [← iI_0, iI_lt ⟨by omega, by omega⟩ ⟨by omega, by omega⟩]; omega
  refine va_newa (atype := .byte) (ty := .byte) (a0 := (N, .inl (fun _ => iI 0))) hx hb (hts _ hw) rfl hK hP hD hS hA (fun cA => by rw [iI_0]; rfl) hg hc hby hk.1 hk.2 d (fun q cA H1 hK1 hP1 hD1 hS1 => ?_)
  have h1 : s.vm.findClass ("[" ++ (FieldType.byte).toString) = some G.2.2.1 := (hK.2 1 (G.2.2.1, .byte) rfl).2
  have h2 : s.vm.findClass ("[" ++ (FieldType.byte).toString) = some cA := (hK1.2 4 (cA, .byte) rfl).2
  have h3 : cA = G.2.2.1 := by rw [h1] at h2; exact (Option.some.inj h2).symm
  subst h3
  exact k q H1 locs la hP1 hD1 hS1 hl
theorem Mach.newaL (M : Mach l own nm b nL R G V) {n : Int} {N : Nat} (hn : n = (N : Int)) (hN9 : N ≤ 10000) (hw : Cond.arrayClass .long ∈ big) (hk : kc + 1 ≤ R.cells ∧ ks + N ≤ R.slots) (d : decode b pc = .ok (.newarray .long, 2)) (k : ∀ q, V (kc + 1) (ks + N) (pc + 2) (ws ++ [(q, eL G N (fun _ => 0))]) ls (.ref q :: st)) : V kc ks pc ws ls (.int (iI n) :: st) := by
  obtain ⟨p, e, s, m, args, below, meth, c, A, Q, rfl, hx, hb, hml, hown, hts, hK, hN, hA, hnm⟩ := M
  intro H locs la hP hD hS hl
  subst hn
  have hby : N * componentBytes (.long : FieldType) ≤ 536870912 := Nat.le_trans (Nat.mul_le_mul hN9 (show componentBytes (.long : FieldType) ≤ 8 by decide)) (by decide)
  have hc : (iI (N : Int)).toNatClampNeg = N := by rw [iI_clamp (by omega) (by omega)]; omega
  have hg : ¬ iI (N : Int) < 0 := by rw [← iI_0, iI_lt ⟨by omega, by omega⟩ ⟨by omega, by omega⟩]; omega
  refine va_newa (atype := .long) (ty := .long) (a0 := (N, .inr (.inl (fun _ => lI 0)))) hx hb (hts _ hw) rfl hK hP hD hS hA (fun cA => by rw [lI_0]; rfl) hg hc hby hk.1 hk.2 d (fun q cA H1 hK1 hP1 hD1 hS1 => ?_)
  have h1 : s.vm.findClass ("[" ++ (FieldType.long).toString) = some G.2.2.2.1 := (hK.2 2 (G.2.2.2.1, .long) rfl).2
  have h2 : s.vm.findClass ("[" ++ (FieldType.long).toString) = some cA := (hK1.2 4 (cA, .long) rfl).2
  have h3 : cA = G.2.2.2.1 := by rw [h1] at h2; exact (Option.some.inj h2).symm
  subst h3
  exact k q H1 locs la hP1 hD1 hS1 hl
theorem Mach.newaZ (M : Mach l own nm b nL R G V) {n : Int} {N : Nat} (hn : n = (N : Int)) (hN9 : N ≤ 10000) (hw : Cond.arrayClass .boolean ∈ big) (hk : kc + 1 ≤ R.cells ∧ ks + N ≤ R.slots) (d : decode b pc = .ok (.newarray .boolean, 2)) (k : ∀ q, V (kc + 1) (ks + N) (pc + 2) (ws ++ [(q, eZ G N (fun _ => 0))]) ls (.ref q :: st)) : V kc ks pc ws ls (.int (iI n) :: st) := by
  obtain ⟨p, e, s, m, args, below, meth, c, A, Q, rfl, hx, hb, hml, hown, hts, hK, hN, hA, hnm⟩ := M
  intro H locs la hP hD hS hl
  subst hn
  have hby : N * componentBytes (.boolean : FieldType) ≤ 536870912 := Nat.le_trans (Nat.mul_le_mul hN9 (show componentBytes (.boolean : FieldType) ≤ 8 by decide)) (by decide)
  have hc : (iI (N : Int)).toNatClampNeg = N := by rw [iI_clamp (by omega) (by omega)]; omega
  have hg : ¬ iI (N : Int) < 0 := by rw [← iI_0, iI_lt ⟨by omega, by omega⟩ ⟨by omega, by omega⟩]; omega
  refine va_newa (atype := .boolean) (ty := .boolean) (a0 := (N, .inl (fun _ => iI 0))) hx hb (hts _ hw) rfl hK hP hD hS hA (fun cA => by rw [iI_0]; rfl) hg hc hby hk.1 hk.2 d (fun q cA H1 hK1 hP1 hD1 hS1 => ?_)
  have h1 : s.vm.findClass ("[" ++ (FieldType.boolean).toString) = some G.2.2.2.2 := (hK.2 3 (G.2.2.2.2, .boolean) rfl).2
  have h2 : s.vm.findClass ("[" ++ (FieldType.boolean).toString) = some cA := (hK1.2 4 (cA, .boolean) rfl).2
  have h3 : cA = G.2.2.2.2 := by rw [h1] at h2; exact (Option.some.inj h2).symm
  subst h3
  exact k q H1 locs la hP1 hD1 hS1 hl
end MAKING
set_option maxRecDepth 20000 in
theorem ob_code : Cond.code objectInit ⟨#[0xb1]⟩ 1 none ∈ big := (mem_big (tk_1 (List.mem_of_getElem? (i := 24) rfl)) rfl)
theorem lo_X0 : Cond.methodLink RX0 5 objectInit ∈ big := (mem_big (tk_1 (List.mem_of_getElem? (i := 152) rfl)) rfl)
theorem lo_X1 : Cond.methodLink RX1 3 objectInit ∈ big := (mem_big (tk_1 (List.mem_of_getElem? (i := 101) rfl)) rfl)
theorem lo_X2 : Cond.methodLink RX2 3 objectInit ∈ big := (mem_big (tk_1 (List.mem_of_getElem? (i := 127) rfl)) rfl)
theorem lo_X3 : Cond.methodLink RX3 3 objectInit ∈ big := (mem_big (tk_1 (List.mem_of_getElem? (i := 189) rfl)) rfl)
theorem lo_X4 : Cond.methodLink RX4 3 objectInit ∈ big := (mem_big (tk_1 (List.mem_of_getElem? (i := 82) rfl)) rfl)
theorem lo_X5 : Cond.methodLink RX5 3 objectInit ∈ big := (mem_big (tk_1 (List.mem_of_getElem? (i := 30) rfl)) rfl)
theorem lo_X6 : Cond.methodLink RX6 1 objectInit ∈ big := (mem_big (tk_1 (List.mem_of_getElem? (i := 62) rfl)) rfl)
theorem lo_X7 : Cond.methodLink RX7 1 objectInit ∈ big := (mem_big (tk_1 (List.mem_of_getElem? (i := 22) rfl)) rfl)
theorem lo_X8 : Cond.methodLink RX8 1 objectInit ∈ big := (mem_big (tk_4 (List.mem_of_getElem? (i := 67) rfl)) rfl)
set_option maxRecDepth 20000 in
theorem dv_X0 : ∀ j, j < 9 → defaultValue (tyX0 j) = vp_V [.null, .null, .null, .null, .null, .null, .int (iI 0), .int (iI 0), .int (iI 0)] j := by
  rw [iI_0]
  intro j hj
  rcases (show j = 0 ∨ j = 1 ∨ j = 2 ∨ j = 3 ∨ j = 4 ∨ j = 5 ∨ j = 6 ∨ j = 7 ∨ j = 8 by omega) with rfl | rfl | rfl | rfl | rfl | rfl | rfl | rfl | rfl <;> rfl
set_option maxRecDepth 20000 in
theorem dv_X1 : ∀ j, j < 6 → defaultValue (tyX1 j) = vp_V [.null, .null, .null, .null, .null, .int (iI 0)] j := by
  rw [iI_0]
  intro j hj
  rcases (show j = 0 ∨ j = 1 ∨ j = 2 ∨ j = 3 ∨ j = 4 ∨ j = 5 by omega) with rfl | rfl | rfl | rfl | rfl | rfl <;> rfl
set_option maxRecDepth 20000 in
theorem dv_X2 : ∀ j, j < 5 → defaultValue (tyX2 j) = vp_V [.null, .null, .int (iI 0), .int (iI 0), .int (iI 0)] j := by
  rw [iI_0]
  intro j hj
  rcases (show j = 0 ∨ j = 1 ∨ j = 2 ∨ j = 3 ∨ j = 4 by omega) with rfl | rfl | rfl | rfl | rfl <;> rfl
set_option maxRecDepth 20000 in
theorem dv_X3 : ∀ j, j < 5 → defaultValue (tyX3 j) = vp_V [.null, .null, .int (iI 0), .int (iI 0), .int (iI 0)] j := by
  rw [iI_0]
  intro j hj
  rcases (show j = 0 ∨ j = 1 ∨ j = 2 ∨ j = 3 ∨ j = 4 by omega) with rfl | rfl | rfl | rfl | rfl <;> rfl
set_option maxRecDepth 20000 in
theorem dv_X4 : ∀ j, j < 3 → defaultValue (tyX4 j) = vp_V [.null, .int (iI 0), .int (iI 0)] j := by
  rw [iI_0]
  intro j hj
  rcases (show j = 0 ∨ j = 1 ∨ j = 2 by omega) with rfl | rfl | rfl <;> rfl
set_option maxRecDepth 20000 in
theorem dv_X5 : ∀ j, j < 7 → defaultValue (tyX5 j) = vp_V [.null, .int (iI 0), .int (iI 0), .int (iI 0), .int (iI 0), .int (iI 0), .int (iI 0)] j := by
  rw [iI_0]
  intro j hj
  rcases (show j = 0 ∨ j = 1 ∨ j = 2 ∨ j = 3 ∨ j = 4 ∨ j = 5 ∨ j = 6 by omega) with rfl | rfl | rfl | rfl | rfl | rfl | rfl <;> rfl
set_option maxRecDepth 20000 in
theorem dv_X6 : ∀ j, j < 2 → defaultValue (tyX6 j) = vp_V [.null, .int (iI 0)] j := by
  rw [iI_0]
  intro j hj
  rcases (show j = 0 ∨ j = 1 by omega) with rfl | rfl <;> rfl
set_option maxRecDepth 20000 in
theorem dv_X7 : ∀ j, j < 11 → defaultValue (tyX7 j) = vp_V [.null, .null, .null, .null, .null, .null, .null, .null, .null, .null, .int (iI 0)] j := by
  rw [iI_0]
  intro j hj
  rcases (show j = 0 ∨ j = 1 ∨ j = 2 ∨ j = 3 ∨ j = 4 ∨ j = 5 ∨ j = 6 ∨ j = 7 ∨ j = 8 ∨ j = 9 ∨ j = 10 by omega) with rfl | rfl | rfl | rfl | rfl | rfl | rfl | rfl | rfl | rfl | rfl <;> rfl
set_option maxRecDepth 20000 in
theorem dv_X8 : ∀ j, j < 32 → defaultValue (tyX8 j) = vp_V [.int (iI 0), .null, .int (iI 0), .null, .int (iI 0), .int (iI 0), .null, .int (iI 0), .null, .int (iI 0), .int (iI 0), .int (iI 0), .long (lI 0), .int (iI 0), .int (iI 0), .int (iI 0), .int (iI 0), .null, .int (iI 0), .null, .int (iI 0), .null, .null, .int (iI 0), .null, .null, .null, .int (iI 0), .int (iI 0), .null, .null, .null] j := by
  rw [iI_0, lI_0]
  intro j hj
  rcases (show j = 0 ∨ j = 1 ∨ j = 2 ∨ j = 3 ∨ j = 4 ∨ j = 5 ∨ j = 6 ∨ j = 7 ∨ j = 8 ∨ j = 9 ∨ j = 10 ∨ j = 11 ∨ j = 12 ∨ j = 13 ∨ j = 14 ∨ j = 15 ∨ j = 16 ∨ j = 17 ∨ j = 18 ∨ j = 19 ∨ j = 20 ∨ j = 21 ∨ j = 22 ∨ j = 23 ∨ j = 24 ∨ j = 25 ∨ j = 26 ∨ j = 27 ∨ j = 28 ∨ j = 29 ∨ j = 30 ∨ j = 31 by omega) with rfl | rfl | rfl | rfl | rfl | rfl | rfl | rfl | rfl | rfl | rfl | rfl | rfl | rfl | rfl | rfl | rfl | rfl | rfl | rfl | rfl | rfl | rfl | rfl | rfl | rfl | rfl | rfl | rfl | rfl | rfl | rfl <;> rfl
set_option maxHeartbeats 4000000 in
set_option maxRecDepth 100000 in
theorem c_X0_init {l : Launch} {G : GT} {a : Nat} : Con l G yX0_init cX0_init 1 none { frames := 1, cells := 6, slots := 10138, locals := 20 } [.ref a] [(a, eO 0 [.null, .null, .null, .null, .null, .null, .int (iI 0), .int (iI 0), .int (iI 0)])] (S := Nat × Nat × Nat × Nat × Nat × Nat) (fun _ => none) (fun u => [(a, eO 0 [.ref u.1, .ref u.2.1, .ref u.2.2.1, .ref u.2.2.2.1, .ref u.2.2.2.2.1, .ref u.2.2.2.2.2, .int (iI 0), .int (iI 0), .int (iI 0)])] ++ [(u.1, eL G 128 (fun _ => 0)), (u.2.1, eI G 128 (fun _ => 0)), (u.2.2.1, eI G 1664 (fun _ => 0)), (u.2.2.2.1, eI G 13 (fun _ => 0)), (u.2.2.2.2.1, eI G 8192 (fun _ => 0)), (u.2.2.2.2.2, eI G 13 (fun _ => 0))]) (fun _ => True) := by
  refine Con.mk (by decide +kernel) [some (.ref a)] rfl (Nat.le_of_ble_eq_true rfl) rfl ?_
  intro V M EI EL EV EA
  refine M.aloadn (pc := 0) 0 rfl rfl dX0_init_0 ?_
  refine M.objI (pc := 1) lo_X0 ob_code rfl ⟨(Nat.le_of_ble_eq_true rfl), (Nat.le_of_ble_eq_true rfl)⟩ dX0_init_1 ?_
  refine M.aloadn (pc := 4) 0 rfl rfl dX0_init_4 ?_
  refine M.sipush (pc := 5) (by decide +kernel) dX0_init_5 ?_
  refine M.newaL (pc := 8) (N := 128) (by decide) (by decide) aw_long ⟨(Nat.le_of_ble_eq_true rfl), (Nat.le_of_ble_eq_true rfl)⟩ dX0_init_8 (fun q8 => ?_)
  dsimp only [putL, List.set_cons_zero, List.set_cons_succ, Option.toList, List.cons_append, List.nil_append]
  refine M.putF (pc := 10) rfl fp_X0_11 0 rfl rfl rfl (Nat.le_of_ble_eq_true rfl) dX0_init_10 ?_
  dsimp only [putL, List.set_cons_zero, List.set_cons_succ, Option.toList, List.cons_append, List.nil_append]
  refine M.aloadn (pc := 13) 0 rfl rfl dX0_init_13 ?_
  refine M.sipush (pc := 14) (by decide +kernel) dX0_init_14 ?_
  refine M.newaI (pc := 17) (N := 128) (by decide) (by decide) aw_int ⟨(Nat.le_of_ble_eq_true rfl), (Nat.le_of_ble_eq_true rfl)⟩ dX0_init_17 (fun q17 => ?_)
  dsimp only [putL, List.set_cons_zero, List.set_cons_succ, Option.toList, List.cons_append, List.nil_append]
  refine M.putF (pc := 19) rfl fp_X0_15 0 rfl rfl rfl (Nat.le_of_ble_eq_true rfl) dX0_init_19 ?_
  dsimp only [putL, List.set_cons_zero, List.set_cons_succ, Option.toList, List.cons_append, List.nil_append]
  refine M.aloadn (pc := 22) 0 rfl rfl dX0_init_22 ?_
  refine M.sipush (pc := 23) (by decide +kernel) dX0_init_23 ?_
  refine M.newaI (pc := 26) (N := 1664) (by decide) (by decide) aw_int ⟨(Nat.le_of_ble_eq_true rfl), (Nat.le_of_ble_eq_true rfl)⟩ dX0_init_26 (fun q26 => ?_)
  dsimp only [putL, List.set_cons_zero, List.set_cons_succ, Option.toList, List.cons_append, List.nil_append]
  refine M.putF (pc := 28) rfl fp_X0_19 0 rfl rfl rfl (Nat.le_of_ble_eq_true rfl) dX0_init_28 ?_
  dsimp only [putL, List.set_cons_zero, List.set_cons_succ, Option.toList, List.cons_append, List.nil_append]
  refine M.aloadn (pc := 31) 0 rfl rfl dX0_init_31 ?_
  refine M.bipush (pc := 32) (by decide +kernel) dX0_init_32 ?_
  refine M.newaI (pc := 34) (N := 13) (by decide) (by decide) aw_int ⟨(Nat.le_of_ble_eq_true rfl), (Nat.le_of_ble_eq_true rfl)⟩ dX0_init_34 (fun q34 => ?_)
  dsimp only [putL, List.set_cons_zero, List.set_cons_succ, Option.toList, List.cons_append, List.nil_append]
  refine M.putF (pc := 36) rfl fp_X0_22 0 rfl rfl rfl (Nat.le_of_ble_eq_true rfl) dX0_init_36 ?_
  dsimp only [putL, List.set_cons_zero, List.set_cons_succ, Option.toList, List.cons_append, List.nil_append]
  refine M.aloadn (pc := 39) 0 rfl rfl dX0_init_39 ?_
  refine M.sipush (pc := 40) (by decide +kernel) dX0_init_40 ?_
  refine M.newaI (pc := 43) (N := 8192) (by decide) (by decide) aw_int ⟨(Nat.le_of_ble_eq_true rfl), (Nat.le_of_ble_eq_true rfl)⟩ dX0_init_43 (fun q43 => ?_)
  dsimp only [putL, List.set_cons_zero, List.set_cons_succ, Option.toList, List.cons_append, List.nil_append]
  refine M.putF (pc := 45) rfl fp_X0_25 0 rfl rfl rfl (Nat.le_of_ble_eq_true rfl) dX0_init_45 ?_
  dsimp only [putL, List.set_cons_zero, List.set_cons_succ, Option.toList, List.cons_append, List.nil_append]
  refine M.aloadn (pc := 48) 0 rfl rfl dX0_init_48 ?_
  refine M.bipush (pc := 49) (by decide +kernel) dX0_init_49 ?_
  refine M.newaI (pc := 51) (N := 13) (by decide) (by decide) aw_int ⟨(Nat.le_of_ble_eq_true rfl), (Nat.le_of_ble_eq_true rfl)⟩ dX0_init_51 (fun q51 => ?_)
  dsimp only [putL, List.set_cons_zero, List.set_cons_succ, Option.toList, List.cons_append, List.nil_append]
  refine M.putF (pc := 53) rfl fp_X0_28 0 rfl rfl rfl (Nat.le_of_ble_eq_true rfl) dX0_init_53 ?_
  dsimp only [putL, List.set_cons_zero, List.set_cons_succ, Option.toList, List.cons_append, List.nil_append]
  exact EV (q8, q17, q26, q34, q43, q51) _ _ _ dX0_init_56 rfl rfl rfl trivial
set_option maxHeartbeats 4000000 in
set_option maxRecDepth 100000 in
theorem c_X1_init {l : Launch} {G : GT} {a : Nat} : Con l G yX1_init cX1_init 1 none { frames := 1, cells := 5, slots := 48, locals := 20 } [.ref a] [(a, eO 1 [.null, .null, .null, .null, .null, .int (iI 0)])] (S := Nat × Nat × Nat × Nat × Nat) (fun _ => none) (fun u => [(a, eO 1 [.ref u.1, .ref u.2.1, .ref u.2.2.1, .ref u.2.2.2.1, .ref u.2.2.2.2, .int (iI 0)])] ++ [(u.1, eI G 6 (fun _ => 0)), (u.2.1, eI G 6 (fun _ => 0)), (u.2.2.1, eI G 12 (fun _ => 0)), (u.2.2.2.1, eI G 12 (fun _ => 0)), (u.2.2.2.2, eI G 12 (fun _ => 0))]) (fun _ => True) := by
  refine Con.mk (by decide +kernel) [some (.ref a)] rfl (Nat.le_of_ble_eq_true rfl) rfl ?_
  intro V M EI EL EV EA
  refine M.aloadn (pc := 0) 0 rfl rfl dX1_init_0 ?_
  refine M.objI (pc := 1) lo_X1 ob_code rfl ⟨(Nat.le_of_ble_eq_true rfl), (Nat.le_of_ble_eq_true rfl)⟩ dX1_init_1 ?_
  refine M.aloadn (pc := 4) 0 rfl rfl dX1_init_4 ?_
  refine M.bipush (pc := 5) (by decide +kernel) dX1_init_5 ?_
  refine M.newaI (pc := 7) (N := 6) (by decide) (by decide) aw_int ⟨(Nat.le_of_ble_eq_true rfl), (Nat.le_of_ble_eq_true rfl)⟩ dX1_init_7 (fun q7 => ?_)
  dsimp only [putL, List.set_cons_zero, List.set_cons_succ, Option.toList, List.cons_append, List.nil_append]
  refine M.putF (pc := 9) rfl fp_X1_9 0 rfl rfl rfl (Nat.le_of_ble_eq_true rfl) dX1_init_9 ?_
  dsimp only [putL, List.set_cons_zero, List.set_cons_succ, Option.toList, List.cons_append, List.nil_append]
  refine M.aloadn (pc := 12) 0 rfl rfl dX1_init_12 ?_
  refine M.bipush (pc := 13) (by decide +kernel) dX1_init_13 ?_
  refine M.newaI (pc := 15) (N := 6) (by decide) (by decide) aw_int ⟨(Nat.le_of_ble_eq_true rfl), (Nat.le_of_ble_eq_true rfl)⟩ dX1_init_15 (fun q15 => ?_)
  dsimp only [putL, List.set_cons_zero, List.set_cons_succ, Option.toList, List.cons_append, List.nil_append]
  refine M.putF (pc := 17) rfl fp_X1_15 0 rfl rfl rfl (Nat.le_of_ble_eq_true rfl) dX1_init_17 ?_
  dsimp only [putL, List.set_cons_zero, List.set_cons_succ, Option.toList, List.cons_append, List.nil_append]
  refine M.aloadn (pc := 20) 0 rfl rfl dX1_init_20 ?_
  refine M.bipush (pc := 21) (by decide +kernel) dX1_init_21 ?_
  refine M.newaI (pc := 23) (N := 12) (by decide) (by decide) aw_int ⟨(Nat.le_of_ble_eq_true rfl), (Nat.le_of_ble_eq_true rfl)⟩ dX1_init_23 (fun q23 => ?_)
  dsimp only [putL, List.set_cons_zero, List.set_cons_succ, Option.toList, List.cons_append, List.nil_append]
  refine M.putF (pc := 25) rfl fp_X1_18 0 rfl rfl rfl (Nat.le_of_ble_eq_true rfl) dX1_init_25 ?_
  dsimp only [putL, List.set_cons_zero, List.set_cons_succ, Option.toList, List.cons_append, List.nil_append]
  refine M.aloadn (pc := 28) 0 rfl rfl dX1_init_28 ?_
  refine M.bipush (pc := 29) (by decide +kernel) dX1_init_29 ?_
  refine M.newaI (pc := 31) (N := 12) (by decide) (by decide) aw_int ⟨(Nat.le_of_ble_eq_true rfl), (Nat.le_of_ble_eq_true rfl)⟩ dX1_init_31 (fun q31 => ?_)
  dsimp only [putL, List.set_cons_zero, List.set_cons_succ, Option.toList, List.cons_append, List.nil_append]
  refine M.putF (pc := 33) rfl fp_X1_21 0 rfl rfl rfl (Nat.le_of_ble_eq_true rfl) dX1_init_33 ?_
  dsimp only [putL, List.set_cons_zero, List.set_cons_succ, Option.toList, List.cons_append, List.nil_append]
  refine M.aloadn (pc := 36) 0 rfl rfl dX1_init_36 ?_
  refine M.bipush (pc := 37) (by decide +kernel) dX1_init_37 ?_
  refine M.newaI (pc := 39) (N := 12) (by decide) (by decide) aw_int ⟨(Nat.le_of_ble_eq_true rfl), (Nat.le_of_ble_eq_true rfl)⟩ dX1_init_39 (fun q39 => ?_)
  dsimp only [putL, List.set_cons_zero, List.set_cons_succ, Option.toList, List.cons_append, List.nil_append]
  refine M.putF (pc := 41) rfl fp_X1_24 0 rfl rfl rfl (Nat.le_of_ble_eq_true rfl) dX1_init_41 ?_
  dsimp only [putL, List.set_cons_zero, List.set_cons_succ, Option.toList, List.cons_append, List.nil_append]
  exact EV (q7, q15, q23, q31, q39) _ _ _ dX1_init_44 rfl rfl rfl trivial
set_option maxHeartbeats 4000000 in
set_option maxRecDepth 100000 in
theorem c_X2_init {l : Launch} {G : GT} {a : Nat} : Con l G yX2_init cX2_init 1 none { frames := 2, cells := 7, slots := 978, locals := 40 } [.ref a] [(a, eO 2 [.null, .null, .int (iI 0), .int (iI 0), .int (iI 0)])] (S := Nat × Nat × Nat × Nat × Nat × Nat × Nat) (fun _ => none) (fun u => [(a, eO 2 [.ref u.1, .ref u.2.2.2.2.2.2, .int (iI 0), .int (iI 0), .int (iI 0)])] ++ [(u.1, eO 1 [.ref u.2.1, .ref u.2.2.1, .ref u.2.2.2.1, .ref u.2.2.2.2.1, .ref u.2.2.2.2.2.1, .int (iI 0)]), (u.2.1, eI G 6 (fun _ => 0)), (u.2.2.1, eI G 6 (fun _ => 0)), (u.2.2.2.1, eI G 12 (fun _ => 0)), (u.2.2.2.2.1, eI G 12 (fun _ => 0)), (u.2.2.2.2.2.1, eI G 12 (fun _ => 0)), (u.2.2.2.2.2.2, eI G 924 (fun _ => 0))]) (fun _ => True) := by
  refine Con.mk (by decide +kernel) [some (.ref a)] rfl (Nat.le_of_ble_eq_true rfl) rfl ?_
  intro V M EI EL EV EA
  refine M.aloadn (pc := 0) 0 rfl rfl dX2_init_0 ?_
  refine M.objI (pc := 1) lo_X2 ob_code rfl ⟨(Nat.le_of_ble_eq_true rfl), (Nat.le_of_ble_eq_true rfl)⟩ dX2_init_1 ?_
  refine M.aloadn (pc := 4) 0 rfl rfl dX2_init_4 ?_
  refine M.new (pc := 5) (ci := 1) tyX1 tyX1_ok hwX1 nw_X2_9 in_X1 ii_X1 rfl dv_X1 ⟨(Nat.le_of_ble_eq_true rfl), (Nat.le_of_ble_eq_true rfl)⟩ dX2_init_5 (fun q5 => ?_)
  dsimp only [putL, List.set_cons_zero, List.set_cons_succ, Option.toList, List.cons_append, List.nil_append]
  refine M.dup (pc := 8) rfl dX2_init_8 ?_
  refine M.invIN (pc := 9) (rest := [.ref q5, .ref a]) c_X1_init mi_X2_11 [1] rfl rfl rfl rfl (Nat.le_of_ble_eq_true rfl) rfl ⟨(Nat.le_of_ble_eq_true rfl), (Nat.le_of_ble_eq_true rfl)⟩ ⟨(Nat.le_of_ble_eq_true rfl), (Nat.le_of_ble_eq_true rfl)⟩ (fun u => [(q5, eO 1 [.ref u.1, .ref u.2.1, .ref u.2.2.1, .ref u.2.2.2.1, .ref u.2.2.2.2, .int (iI 0)])]) (fun u => [(u.1, eI G 6 (fun _ => 0)), (u.2.1, eI G 6 (fun _ => 0)), (u.2.2.1, eI G 12 (fun _ => 0)), (u.2.2.2.1, eI G 12 (fun _ => 0)), (u.2.2.2.2, eI G 12 (fun _ => 0))]) (fun _ => rfl) (fun _ => rfl) dX2_init_9 (fun u9 _ => ?_)
  obtain ⟨x9_0, x9_1, x9_2, x9_3, x9_4⟩ := u9
  dsimp only [putL, List.set_cons_zero, List.set_cons_succ, Option.toList, List.cons_append, List.nil_append]
  refine M.putF (pc := 12) rfl fp_X2_12 0 rfl rfl rfl (Nat.le_of_ble_eq_true rfl) dX2_init_12 ?_
  dsimp only [putL, List.set_cons_zero, List.set_cons_succ, Option.toList, List.cons_append, List.nil_append]
  refine M.aloadn (pc := 15) 0 rfl rfl dX2_init_15 ?_
  refine M.sipush (pc := 16) (by decide +kernel) dX2_init_16 ?_
  refine M.newaI (pc := 19) (N := 924) (by decide) (by decide) aw_int ⟨(Nat.le_of_ble_eq_true rfl), (Nat.le_of_ble_eq_true rfl)⟩ dX2_init_19 (fun q19 => ?_)
  dsimp only [putL, List.set_cons_zero, List.set_cons_succ, Option.toList, List.cons_append, List.nil_append]
  refine M.putF (pc := 21) rfl fp_X2_18 0 rfl rfl rfl (Nat.le_of_ble_eq_true rfl) dX2_init_21 ?_
  dsimp only [putL, List.set_cons_zero, List.set_cons_succ, Option.toList, List.cons_append, List.nil_append]
  exact EV (q5, x9_0, x9_1, x9_2, x9_3, x9_4, q19) _ _ _ dX2_init_24 rfl rfl rfl trivial
set_option maxHeartbeats 4000000 in
set_option maxRecDepth 100000 in
theorem c_X3_init {l : Launch} {G : GT} {a : Nat} : Con l G yX3_init cX3_init 1 none { frames := 1, cells := 2, slots := 32, locals := 20 } [.ref a] [(a, eO 3 [.null, .null, .int (iI 0), .int (iI 0), .int (iI 0)])] (S := Nat × Nat) (fun _ => none) (fun u => [(a, eO 3 [.ref u.1, .ref u.2, .int (iI 0), .int (iI 0), .int (iI (5))])] ++ [(u.1, eI G 8 (fun _ => 0)), (u.2, eI G 24 (fun _ => 0))]) (fun _ => True) := by
  refine Con.mk (by decide +kernel) [some (.ref a)] rfl (Nat.le_of_ble_eq_true rfl) rfl ?_
  intro V M EI EL EV EA
  refine M.aloadn (pc := 0) 0 rfl rfl dX3_init_0 ?_
  refine M.objI (pc := 1) lo_X3 ob_code rfl ⟨(Nat.le_of_ble_eq_true rfl), (Nat.le_of_ble_eq_true rfl)⟩ dX3_init_1 ?_
  refine M.aloadn (pc := 4) 0 rfl rfl dX3_init_4 ?_
  refine M.bipush (pc := 5) (by decide +kernel) dX3_init_5 ?_
  refine M.newaI (pc := 7) (N := 8) (by decide) (by decide) aw_int ⟨(Nat.le_of_ble_eq_true rfl), (Nat.le_of_ble_eq_true rfl)⟩ dX3_init_7 (fun q7 => ?_)
  dsimp only [putL, List.set_cons_zero, List.set_cons_succ, Option.toList, List.cons_append, List.nil_append]
  refine M.putF (pc := 9) rfl fp_X3_11 0 rfl rfl rfl (Nat.le_of_ble_eq_true rfl) dX3_init_9 ?_
  dsimp only [putL, List.set_cons_zero, List.set_cons_succ, Option.toList, List.cons_append, List.nil_append]
  refine M.aloadn (pc := 12) 0 rfl rfl dX3_init_12 ?_
  refine M.bipush (pc := 13) (by decide +kernel) dX3_init_13 ?_
  refine M.newaI (pc := 15) (N := 24) (by decide) (by decide) aw_int ⟨(Nat.le_of_ble_eq_true rfl), (Nat.le_of_ble_eq_true rfl)⟩ dX3_init_15 (fun q15 => ?_)
  dsimp only [putL, List.set_cons_zero, List.set_cons_succ, Option.toList, List.cons_append, List.nil_append]
  refine M.putF (pc := 17) rfl fp_X3_15 0 rfl rfl rfl (Nat.le_of_ble_eq_true rfl) dX3_init_17 ?_
  dsimp only [putL, List.set_cons_zero, List.set_cons_succ, Option.toList, List.cons_append, List.nil_append]
  refine M.aloadn (pc := 20) 0 rfl rfl dX3_init_20 ?_
  refine M.iconst (pc := 21) dX3_init_21 ?_
  refine M.putf (pc := 22) fp_X3_18 0 rfl rfl rfl (Nat.le_of_ble_eq_true rfl) dX3_init_22 ?_
  dsimp only [putL, List.set_cons_zero, List.set_cons_succ, Option.toList, List.cons_append, List.nil_append]
  exact EV (q7, q15) _ _ _ dX3_init_25 rfl rfl rfl trivial
set_option maxHeartbeats 4000000 in
set_option maxRecDepth 100000 in
theorem c_X6_init_12 {l : Launch} {G : GT} {a : Nat} : Con l G yX6_init cX6_init 2 none { frames := 1, cells := 1, slots := 48, locals := 21 } [.ref a, .int (iI 12)] [(a, eO 6 [.null, .int (iI 0)])] (S := Nat) (fun _ => none) (fun u => [(a, eO 6 [.ref u, .int (iI 0)])] ++ [(u, eI G 48 (fun _ => 0))]) (fun _ => True) := by
  refine Con.mk (by decide +kernel) [some (.ref a), some (.int (iI 12))] rfl (Nat.le_of_ble_eq_true rfl) rfl ?_
  intro V M EI EL EV EA
  refine M.aloadn (pc := 0) 0 rfl rfl dX6_init_0 ?_
  refine M.objI (pc := 1) lo_X6 ob_code rfl ⟨(Nat.le_of_ble_eq_true rfl), (Nat.le_of_ble_eq_true rfl)⟩ dX6_init_1 ?_
  refine M.aloadn (pc := 4) 0 rfl rfl dX6_init_4 ?_
  refine M.iconst (pc := 5) dX6_init_5 ?_
  refine M.iloadn (pc := 6) 1 rfl rfl dX6_init_6 ?_
  refine M.max (pc := 7) ml_X6_7 (by omega) (by omega) rfl ⟨(Nat.le_of_ble_eq_true rfl), (Nat.le_of_ble_eq_true rfl), (Nat.le_of_ble_eq_true rfl), (Nat.le_of_ble_eq_true rfl)⟩ dX6_init_7 ?_
  refine M.iconst (pc := 10) dX6_init_10 ?_
  refine M.imul (pc := 11) dX6_init_11 ?_
  refine M.newaI (pc := 12) (N := 48) (by decide) (by decide) aw_int ⟨(Nat.le_of_ble_eq_true rfl), (Nat.le_of_ble_eq_true rfl)⟩ dX6_init_12 (fun q12 => ?_)
  dsimp only [putL, List.set_cons_zero, List.set_cons_succ, Option.toList, List.cons_append, List.nil_append]
  refine M.putF (pc := 14) rfl fp_X6_15 0 rfl rfl rfl (Nat.le_of_ble_eq_true rfl) dX6_init_14 ?_
  dsimp only [putL, List.set_cons_zero, List.set_cons_succ, Option.toList, List.cons_append, List.nil_append]
  exact EV q12 _ _ _ dX6_init_17 rfl rfl rfl trivial
set_option maxHeartbeats 4000000 in
set_option maxRecDepth 100000 in
theorem c_X6_init_30 {l : Launch} {G : GT} {a : Nat} : Con l G yX6_init cX6_init 2 none { frames := 1, cells := 1, slots := 120, locals := 21 } [.ref a, .int (iI 30)] [(a, eO 6 [.null, .int (iI 0)])] (S := Nat) (fun _ => none) (fun u => [(a, eO 6 [.ref u, .int (iI 0)])] ++ [(u, eI G 120 (fun _ => 0))]) (fun _ => True) := by
  refine Con.mk (by decide +kernel) [some (.ref a), some (.int (iI 30))] rfl (Nat.le_of_ble_eq_true rfl) rfl ?_
  intro V M EI EL EV EA
  refine M.aloadn (pc := 0) 0 rfl rfl dX6_init_0 ?_
  refine M.objI (pc := 1) lo_X6 ob_code rfl ⟨(Nat.le_of_ble_eq_true rfl), (Nat.le_of_ble_eq_true rfl)⟩ dX6_init_1 ?_
  refine M.aloadn (pc := 4) 0 rfl rfl dX6_init_4 ?_
  refine M.iconst (pc := 5) dX6_init_5 ?_
  refine M.iloadn (pc := 6) 1 rfl rfl dX6_init_6 ?_
  refine M.max (pc := 7) ml_X6_7 (by omega) (by omega) rfl ⟨(Nat.le_of_ble_eq_true rfl), (Nat.le_of_ble_eq_true rfl), (Nat.le_of_ble_eq_true rfl), (Nat.le_of_ble_eq_true rfl)⟩ dX6_init_7 ?_
  refine M.iconst (pc := 10) dX6_init_10 ?_
  refine M.imul (pc := 11) dX6_init_11 ?_
  refine M.newaI (pc := 12) (N := 120) (by decide) (by decide) aw_int ⟨(Nat.le_of_ble_eq_true rfl), (Nat.le_of_ble_eq_true rfl)⟩ dX6_init_12 (fun q12 => ?_)
  dsimp only [putL, List.set_cons_zero, List.set_cons_succ, Option.toList, List.cons_append, List.nil_append]
  refine M.putF (pc := 14) rfl fp_X6_15 0 rfl rfl rfl (Nat.le_of_ble_eq_true rfl) dX6_init_14 ?_
  dsimp only [putL, List.set_cons_zero, List.set_cons_succ, Option.toList, List.cons_append, List.nil_append]
  exact EV q12 _ _ _ dX6_init_17 rfl rfl rfl trivial
set_option maxHeartbeats 4000000 in
set_option maxRecDepth 100000 in
theorem c_X4_init {l : Launch} {G : GT} {a : Nat} : Con l G yX4_init cX4_init 1 none { frames := 2, cells := 2, slots := 50, locals := 42 } [.ref a] [(a, eO 4 [.null, .int (iI 0), .int (iI 0)])] (S := Nat × Nat) (fun _ => none) (fun u => [(a, eO 4 [.ref u.1, .int (iI 0), .int (iI 0)])] ++ [(u.1, eO 6 [.ref u.2, .int (iI 0)]), (u.2, eI G 48 (fun _ => 0))]) (fun _ => True) := by
  refine Con.mk (by decide +kernel) [some (.ref a)] rfl (Nat.le_of_ble_eq_true rfl) rfl ?_
  intro V M EI EL EV EA
  refine M.aloadn (pc := 0) 0 rfl rfl dX4_init_0 ?_
  refine M.objI (pc := 1) lo_X4 ob_code rfl ⟨(Nat.le_of_ble_eq_true rfl), (Nat.le_of_ble_eq_true rfl)⟩ dX4_init_1 ?_
  refine M.aloadn (pc := 4) 0 rfl rfl dX4_init_4 ?_
  refine M.new (pc := 5) (ci := 6) tyX6 tyX6_ok hwX6 nw_X4_9 in_X6 ii_X6 rfl dv_X6 ⟨(Nat.le_of_ble_eq_true rfl), (Nat.le_of_ble_eq_true rfl)⟩ dX4_init_5 (fun q5 => ?_)
  dsimp only [putL, List.set_cons_zero, List.set_cons_succ, Option.toList, List.cons_append, List.nil_append]
  refine M.dup (pc := 8) rfl dX4_init_8 ?_
  refine M.bipush (pc := 9) (by decide +kernel) dX4_init_9 ?_
  refine M.invI (pc := 11) (rest := [.ref q5, .ref a]) c_X6_init_12 mi_X4_11 [1] rfl rfl rfl rfl (Nat.le_of_ble_eq_true rfl) rfl ⟨(Nat.le_of_ble_eq_true rfl), (Nat.le_of_ble_eq_true rfl)⟩ ⟨(Nat.le_of_ble_eq_true rfl), (Nat.le_of_ble_eq_true rfl)⟩ (fun u => [(q5, eO 6 [.ref u, .int (iI 0)])]) (fun u => [(u, eI G 48 (fun _ => 0))]) (fun _ => rfl) (fun _ => rfl) dX4_init_11 (fun x11_0 _ => ?_)
  dsimp only [putL, List.set_cons_zero, List.set_cons_succ, Option.toList, List.cons_append, List.nil_append]
  refine M.putF (pc := 14) rfl fp_X4_14 0 rfl rfl rfl (Nat.le_of_ble_eq_true rfl) dX4_init_14 ?_
  dsimp only [putL, List.set_cons_zero, List.set_cons_succ, Option.toList, List.cons_append, List.nil_append]
  exact EV (q5, x11_0) _ _ _ dX4_init_17 rfl rfl rfl trivial
set_option maxHeartbeats 4000000 in
set_option maxRecDepth 100000 in
theorem c_X5_init {l : Launch} {G : GT} {a : Nat} : Con l G yX5_init cX5_init 1 none { frames := 1, cells := 1, slots := 400, locals := 20 } [.ref a] [(a, eO 5 [.null, .int (iI 0), .int (iI 0), .int (iI 0), .int (iI 0), .int (iI 0), .int (iI 0)])] (S := Nat) (fun _ => none) (fun u => [(a, eO 5 [.ref u, .int (iI 0), .int (iI 0), .int (iI (-1)), .int (iI 0), .int (iI 0), .int (iI 0)])] ++ [(u, eB G 400 (fun _ => 0))]) (fun _ => True) := by
  refine Con.mk (by decide +kernel) [some (.ref a)] rfl (Nat.le_of_ble_eq_true rfl) rfl ?_
  intro V M EI EL EV EA
  refine M.aloadn (pc := 0) 0 rfl rfl dX5_init_0 ?_
  refine M.objI (pc := 1) lo_X5 ob_code rfl ⟨(Nat.le_of_ble_eq_true rfl), (Nat.le_of_ble_eq_true rfl)⟩ dX5_init_1 ?_
  refine M.aloadn (pc := 4) 0 rfl rfl dX5_init_4 ?_
  refine M.sipush (pc := 5) (by decide +kernel) dX5_init_5 ?_
  refine M.newaB (pc := 8) (N := 400) (by decide) (by decide) aw_byte ⟨(Nat.le_of_ble_eq_true rfl), (Nat.le_of_ble_eq_true rfl)⟩ dX5_init_8 (fun q8 => ?_)
  dsimp only [putL, List.set_cons_zero, List.set_cons_succ, Option.toList, List.cons_append, List.nil_append]
  refine M.putF (pc := 10) rfl fp_X5_9 0 rfl rfl rfl (Nat.le_of_ble_eq_true rfl) dX5_init_10 ?_
  dsimp only [putL, List.set_cons_zero, List.set_cons_succ, Option.toList, List.cons_append, List.nil_append]
  refine M.aloadn (pc := 13) 0 rfl rfl dX5_init_13 ?_
  refine M.iconst (pc := 14) dX5_init_14 ?_
  refine M.putf (pc := 15) fp_X5_15 0 rfl rfl rfl (Nat.le_of_ble_eq_true rfl) dX5_init_15 ?_
  dsimp only [putL, List.set_cons_zero, List.set_cons_succ, Option.toList, List.cons_append, List.nil_append]
  exact EV q8 _ _ _ dX5_init_18 rfl rfl rfl trivial
set_option maxHeartbeats 4000000 in
set_option maxRecDepth 100000 in
theorem c_X7_init {l : Launch} {G : GT} {a : Nat} : Con l G yX7_init cX7_init 1 none { frames := 3, cells := 39, slots := 11943, locals := 62 } [.ref a] [(a, eO 7 [.null, .null, .null, .null, .null, .null, .null, .null, .null, .null, .int (iI 0)])] (S := Nat × Nat × Nat × Nat × Nat × Nat × Nat × Nat × Nat × Nat × Nat × Nat × Nat × Nat × Nat × Nat × Nat × Nat × Nat × Nat × Nat × Nat × Nat × Nat × Nat × Nat × Nat × Nat × Nat × Nat × Nat × Nat × Nat × Nat × Nat × Nat × Nat × Nat × Nat) (fun _ => none) (fun u => [(a, eO 7 [.ref u.1, .ref u.2.2.1, .ref u.2.2.2.2.1, .ref u.2.2.2.2.2.2.1, .ref u.2.2.2.2.2.2.2.2.2.1, .ref u.2.2.2.2.2.2.2.2.2.2.2.2.1, .ref u.2.2.2.2.2.2.2.2.2.2.2.2.2.2.2.2.2.2.1, .ref u.2.2.2.2.2.2.2.2.2.2.2.2.2.2.2.2.2.2.2.2.2.2.2.2.2.2.1, .ref u.2.2.2.2.2.2.2.2.2.2.2.2.2.2.2.2.2.2.2.2.2.2.2.2.2.2.2.2.2.2.2.2.2.1, .ref u.2.2.2.2.2.2.2.2.2.2.2.2.2.2.2.2.2.2.2.2.2.2.2.2.2.2.2.2.2.2.2.2.2.2.2.2.1, .int (iI 0)])] ++ [(u.1, eO 5 [.ref u.2.1, .int (iI 0), .int (iI 0), .int (iI (-1)), .int (iI 0), .int (iI 0), .int (iI 0)]), (u.2.1, eB G 400 (fun _ => 0)), (u.2.2.1, eO 6 [.ref u.2.2.2.1, .int (iI 0)]), (u.2.2.2.1, eI G 48 (fun _ => 0)), (u.2.2.2.2.1, eO 6 [.ref u.2.2.2.2.2.1, .int (iI 0)]), (u.2.2.2.2.2.1, eI G 120 (fun _ => 0)), (u.2.2.2.2.2.2.1, eO 4 [.ref u.2.2.2.2.2.2.2.1, .int (iI 0), .int (iI 0)]), (u.2.2.2.2.2.2.2.1, eO 6 [.ref u.2.2.2.2.2.2.2.2.1, .int (iI 0)]), (u.2.2.2.2.2.2.2.2.1, eI G 48 (fun _ => 0)), (u.2.2.2.2.2.2.2.2.2.1, eO 4 [.ref u.2.2.2.2.2.2.2.2.2.2.1, .int (iI 0), .int (iI 0)]), (u.2.2.2.2.2.2.2.2.2.2.1, eO 6 [.ref u.2.2.2.2.2.2.2.2.2.2.2.1, .int (iI 0)]), (u.2.2.2.2.2.2.2.2.2.2.2.1, eI G 48 (fun _ => 0)), (u.2.2.2.2.2.2.2.2.2.2.2.2.1, eO 1 [.ref u.2.2.2.2.2.2.2.2.2.2.2.2.2.1, .ref u.2.2.2.2.2.2.2.2.2.2.2.2.2.2.1, .ref u.2.2.2.2.2.2.2.2.2.2.2.2.2.2.2.1, .ref u.2.2.2.2.2.2.2.2.2.2.2.2.2.2.2.2.1, .ref u.2.2.2.2.2.2.2.2.2.2.2.2.2.2.2.2.2.1, .int (iI 0)]), (u.2.2.2.2.2.2.2.2.2.2.2.2.2.1, eI G 6 (fun _ => 0)), (u.2.2.2.2.2.2.2.2.2.2.2.2.2.2.1, eI G 6 (fun _ => 0)), (u.2.2.2.2.2.2.2.2.2.2.2.2.2.2.2.1, eI G 12 (fun _ => 0)), (u.2.2.2.2.2.2.2.2.2.2.2.2.2.2.2.2.1, eI G 12 (fun _ => 0)), (u.2.2.2.2.2.2.2.2.2.2.2.2.2.2.2.2.2.1, eI G 12 (fun _ => 0)), (u.2.2.2.2.2.2.2.2.2.2.2.2.2.2.2.2.2.2.1, eO 2 [.ref u.2.2.2.2.2.2.2.2.2.2.2.2.2.2.2.2.2.2.2.1, .ref u.2.2.2.2.2.2.2.2.2.2.2.2.2.2.2.2.2.2.2.2.2.2.2.2.2.1, .int (iI 0), .int (iI 0), .int (iI 0)]), (u.2.2.2.2.2.2.2.2.2.2.2.2.2.2.2.2.2.2.2.1, eO 1 [.ref u.2.2.2.2.2.2.2.2.2.2.2.2.2.2.2.2.2.2.2.2.1, .ref u.2.2.2.2.2.2.2.2.2.2.2.2.2.2.2.2.2.2.2.2.2.1, .ref u.2.2.2.2.2.2.2.2.2.2.2.2.2.2.2.2.2.2.2.2.2.2.1, .ref u.2.2.2.2.2.2.2.2.2.2.2.2.2.2.2.2.2.2.2.2.2.2.2.1, .ref u.2.2.2.2.2.2.2.2.2.2.2.2.2.2.2.2.2.2.2.2.2.2.2.2.1, .int (iI 0)]), (u.2.2.2.2.2.2.2.2.2.2.2.2.2.2.2.2.2.2.2.2.1, eI G 6 (fun _ => 0)), (u.2.2.2.2.2.2.2.2.2.2.2.2.2.2.2.2.2.2.2.2.2.1, eI G 6 (fun _ => 0)), (u.2.2.2.2.2.2.2.2.2.2.2.2.2.2.2.2.2.2.2.2.2.2.1, eI G 12 (fun _ => 0)), (u.2.2.2.2.2.2.2.2.2.2.2.2.2.2.2.2.2.2.2.2.2.2.2.1, eI G 12 (fun _ => 0)), (u.2.2.2.2.2.2.2.2.2.2.2.2.2.2.2.2.2.2.2.2.2.2.2.2.1, eI G 12 (fun _ => 0)), (u.2.2.2.2.2.2.2.2.2.2.2.2.2.2.2.2.2.2.2.2.2.2.2.2.2.1, eI G 924 (fun _ => 0)), (u.2.2.2.2.2.2.2.2.2.2.2.2.2.2.2.2.2.2.2.2.2.2.2.2.2.2.1, eO 0 [.ref u.2.2.2.2.2.2.2.2.2.2.2.2.2.2.2.2.2.2.2.2.2.2.2.2.2.2.2.1, .ref u.2.2.2.2.2.2.2.2.2.2.2.2.2.2.2.2.2.2.2.2.2.2.2.2.2.2.2.2.1, .ref u.2.2.2.2.2.2.2.2.2.2.2.2.2.2.2.2.2.2.2.2.2.2.2.2.2.2.2.2.2.1, .ref u.2.2.2.2.2.2.2.2.2.2.2.2.2.2.2.2.2.2.2.2.2.2.2.2.2.2.2.2.2.2.1, .ref u.2.2.2.2.2.2.2.2.2.2.2.2.2.2.2.2.2.2.2.2.2.2.2.2.2.2.2.2.2.2.2.1, .ref u.2.2.2.2.2.2.2.2.2.2.2.2.2.2.2.2.2.2.2.2.2.2.2.2.2.2.2.2.2.2.2.2.1, .int (iI 0), .int (iI 0), .int (iI 0)]), (u.2.2.2.2.2.2.2.2.2.2.2.2.2.2.2.2.2.2.2.2.2.2.2.2.2.2.2.1, eL G 128 (fun _ => 0)), (u.2.2.2.2.2.2.2.2.2.2.2.2.2.2.2.2.2.2.2.2.2.2.2.2.2.2.2.2.1, eI G 128 (fun _ => 0)), (u.2.2.2.2.2.2.2.2.2.2.2.2.2.2.2.2.2.2.2.2.2.2.2.2.2.2.2.2.2.1, eI G 1664 (fun _ => 0)), (u.2.2.2.2.2.2.2.2.2.2.2.2.2.2.2.2.2.2.2.2.2.2.2.2.2.2.2.2.2.2.1, eI G 13 (fun _ => 0)), (u.2.2.2.2.2.2.2.2.2.2.2.2.2.2.2.2.2.2.2.2.2.2.2.2.2.2.2.2.2.2.2.1, eI G 8192 (fun _ => 0)), (u.2.2.2.2.2.2.2.2.2.2.2.2.2.2.2.2.2.2.2.2.2.2.2.2.2.2.2.2.2.2.2.2.1, eI G 13 (fun _ => 0)), (u.2.2.2.2.2.2.2.2.2.2.2.2.2.2.2.2.2.2.2.2.2.2.2.2.2.2.2.2.2.2.2.2.2.1, eO 3 [.ref u.2.2.2.2.2.2.2.2.2.2.2.2.2.2.2.2.2.2.2.2.2.2.2.2.2.2.2.2.2.2.2.2.2.2.1, .ref u.2.2.2.2.2.2.2.2.2.2.2.2.2.2.2.2.2.2.2.2.2.2.2.2.2.2.2.2.2.2.2.2.2.2.2.1, .int (iI 0), .int (iI 0), .int (iI (5))]), (u.2.2.2.2.2.2.2.2.2.2.2.2.2.2.2.2.2.2.2.2.2.2.2.2.2.2.2.2.2.2.2.2.2.2.1, eI G 8 (fun _ => 0)), (u.2.2.2.2.2.2.2.2.2.2.2.2.2.2.2.2.2.2.2.2.2.2.2.2.2.2.2.2.2.2.2.2.2.2.2.1, eI G 24 (fun _ => 0)), (u.2.2.2.2.2.2.2.2.2.2.2.2.2.2.2.2.2.2.2.2.2.2.2.2.2.2.2.2.2.2.2.2.2.2.2.2.1, eO 3 [.ref u.2.2.2.2.2.2.2.2.2.2.2.2.2.2.2.2.2.2.2.2.2.2.2.2.2.2.2.2.2.2.2.2.2.2.2.2.2.1, .ref u.2.2.2.2.2.2.2.2.2.2.2.2.2.2.2.2.2.2.2.2.2.2.2.2.2.2.2.2.2.2.2.2.2.2.2.2.2.2, .int (iI 0), .int (iI 0), .int (iI (5))]), (u.2.2.2.2.2.2.2.2.2.2.2.2.2.2.2.2.2.2.2.2.2.2.2.2.2.2.2.2.2.2.2.2.2.2.2.2.2.1, eI G 8 (fun _ => 0)), (u.2.2.2.2.2.2.2.2.2.2.2.2.2.2.2.2.2.2.2.2.2.2.2.2.2.2.2.2.2.2.2.2.2.2.2.2.2.2, eI G 24 (fun _ => 0))]) (fun _ => True) := by
  refine Con.mk (by decide +kernel) [some (.ref a)] rfl (Nat.le_of_ble_eq_true rfl) rfl ?_
  intro V M EI EL EV EA
  refine M.aloadn (pc := 0) 0 rfl rfl dX7_init_0 ?_
  refine M.objI (pc := 1) lo_X7 ob_code rfl ⟨(Nat.le_of_ble_eq_true rfl), (Nat.le_of_ble_eq_true rfl)⟩ dX7_init_1 ?_
  refine M.aloadn (pc := 4) 0 rfl rfl dX7_init_4 ?_
  refine M.new (pc := 5) (ci := 5) tyX5 tyX5_ok hwX5 nw_X7_7 in_X5 ii_X5 rfl dv_X5 ⟨(Nat.le_of_ble_eq_true rfl), (Nat.le_of_ble_eq_true rfl)⟩ dX7_init_5 (fun q5 => ?_)
  dsimp only [putL, List.set_cons_zero, List.set_cons_succ, Option.toList, List.cons_append, List.nil_append]
  refine M.dup (pc := 8) rfl dX7_init_8 ?_
  refine M.invIN (pc := 9) (rest := [.ref q5, .ref a]) c_X5_init mi_X7_9 [1] rfl rfl rfl rfl (Nat.le_of_ble_eq_true rfl) rfl ⟨(Nat.le_of_ble_eq_true rfl), (Nat.le_of_ble_eq_true rfl)⟩ ⟨(Nat.le_of_ble_eq_true rfl), (Nat.le_of_ble_eq_true rfl)⟩ (fun u => [(q5, eO 5 [.ref u, .int (iI 0), .int (iI 0), .int (iI (-1)), .int (iI 0), .int (iI 0), .int (iI 0)])]) (fun u => [(u, eB G 400 (fun _ => 0))]) (fun _ => rfl) (fun _ => rfl) dX7_init_9 (fun x9_0 _ => ?_)
  dsimp only [putL, List.set_cons_zero, List.set_cons_succ, Option.toList, List.cons_append, List.nil_append]
  refine M.putF (pc := 12) rfl fp_X7_10 0 rfl rfl rfl (Nat.le_of_ble_eq_true rfl) dX7_init_12 ?_
  dsimp only [putL, List.set_cons_zero, List.set_cons_succ, Option.toList, List.cons_append, List.nil_append]
  refine M.aloadn (pc := 15) 0 rfl rfl dX7_init_15 ?_
  refine M.new (pc := 16) (ci := 6) tyX6 tyX6_ok hwX6 nw_X7_16 in_X6 ii_X6 rfl dv_X6 ⟨(Nat.le_of_ble_eq_true rfl), (Nat.le_of_ble_eq_true rfl)⟩ dX7_init_16 (fun q16 => ?_)
  dsimp only [putL, List.set_cons_zero, List.set_cons_succ, Option.toList, List.cons_append, List.nil_append]
  refine M.dup (pc := 19) rfl dX7_init_19 ?_
  refine M.bipush (pc := 20) (by decide +kernel) dX7_init_20 ?_
  refine M.invI (pc := 22) (rest := [.ref q16, .ref a]) c_X6_init_12 mi_X7_18 [3] rfl rfl rfl rfl (Nat.le_of_ble_eq_true rfl) rfl ⟨(Nat.le_of_ble_eq_true rfl), (Nat.le_of_ble_eq_true rfl)⟩ ⟨(Nat.le_of_ble_eq_true rfl), (Nat.le_of_ble_eq_true rfl)⟩ (fun u => [(q16, eO 6 [.ref u, .int (iI 0)])]) (fun u => [(u, eI G 48 (fun _ => 0))]) (fun _ => rfl) (fun _ => rfl) dX7_init_22 (fun x22_0 _ => ?_)
  dsimp only [putL, List.set_cons_zero, List.set_cons_succ, Option.toList, List.cons_append, List.nil_append]
  refine M.putF (pc := 25) rfl fp_X7_21 0 rfl rfl rfl (Nat.le_of_ble_eq_true rfl) dX7_init_25 ?_
  dsimp only [putL, List.set_cons_zero, List.set_cons_succ, Option.toList, List.cons_append, List.nil_append]
  refine M.aloadn (pc := 28) 0 rfl rfl dX7_init_28 ?_
  refine M.new (pc := 29) (ci := 6) tyX6 tyX6_ok hwX6 nw_X7_16 in_X6 ii_X6 rfl dv_X6 ⟨(Nat.le_of_ble_eq_true rfl), (Nat.le_of_ble_eq_true rfl)⟩ dX7_init_29 (fun q29 => ?_)
  dsimp only [putL, List.set_cons_zero, List.set_cons_succ, Option.toList, List.cons_append, List.nil_append]
  refine M.dup (pc := 32) rfl dX7_init_32 ?_
  refine M.bipush (pc := 33) (by decide +kernel) dX7_init_33 ?_
  refine M.invI (pc := 35) (rest := [.ref q29, .ref a]) c_X6_init_30 mi_X7_18 [5] rfl rfl rfl rfl (Nat.le_of_ble_eq_true rfl) rfl ⟨(Nat.le_of_ble_eq_true rfl), (Nat.le_of_ble_eq_true rfl)⟩ ⟨(Nat.le_of_ble_eq_true rfl), (Nat.le_of_ble_eq_true rfl)⟩ (fun u => [(q29, eO 6 [.ref u, .int (iI 0)])]) (fun u => [(u, eI G 120 (fun _ => 0))]) (fun _ => rfl) (fun _ => rfl) dX7_init_35 (fun x35_0 _ => ?_)
  dsimp only [putL, List.set_cons_zero, List.set_cons_succ, Option.toList, List.cons_append, List.nil_append]
  refine M.putF (pc := 38) rfl fp_X7_25 0 rfl rfl rfl (Nat.le_of_ble_eq_true rfl) dX7_init_38 ?_
  dsimp only [putL, List.set_cons_zero, List.set_cons_succ, Option.toList, List.cons_append, List.nil_append]
  refine M.aloadn (pc := 41) 0 rfl rfl dX7_init_41 ?_
  refine M.new (pc := 42) (ci := 4) tyX4 tyX4_ok hwX4 nw_X7_28 in_X4 ii_X4 rfl dv_X4 ⟨(Nat.le_of_ble_eq_true rfl), (Nat.le_of_ble_eq_true rfl)⟩ dX7_init_42 (fun q42 => ?_)
  dsimp only [putL, List.set_cons_zero, List.set_cons_succ, Option.toList, List.cons_append, List.nil_append]
  refine M.dup (pc := 45) rfl dX7_init_45 ?_
  refine M.invIN (pc := 46) (rest := [.ref q42, .ref a]) c_X4_init mi_X7_30 [7] rfl rfl rfl rfl (Nat.le_of_ble_eq_true rfl) rfl ⟨(Nat.le_of_ble_eq_true rfl), (Nat.le_of_ble_eq_true rfl)⟩ ⟨(Nat.le_of_ble_eq_true rfl), (Nat.le_of_ble_eq_true rfl)⟩ (fun u => [(q42, eO 4 [.ref u.1, .int (iI 0), .int (iI 0)])]) (fun u => [(u.1, eO 6 [.ref u.2, .int (iI 0)]), (u.2, eI G 48 (fun _ => 0))]) (fun _ => rfl) (fun _ => rfl) dX7_init_46 (fun u46 _ => ?_)
  obtain ⟨x46_0, x46_1⟩ := u46
  dsimp only [putL, List.set_cons_zero, List.set_cons_succ, Option.toList, List.cons_append, List.nil_append]
  refine M.putF (pc := 49) rfl fp_X7_31 0 rfl rfl rfl (Nat.le_of_ble_eq_true rfl) dX7_init_49 ?_
  dsimp only [putL, List.set_cons_zero, List.set_cons_succ, Option.toList, List.cons_append, List.nil_append]
  refine M.aloadn (pc := 52) 0 rfl rfl dX7_init_52 ?_
  refine M.new (pc := 53) (ci := 4) tyX4 tyX4_ok hwX4 nw_X7_28 in_X4 ii_X4 rfl dv_X4 ⟨(Nat.le_of_ble_eq_true rfl), (Nat.le_of_ble_eq_true rfl)⟩ dX7_init_53 (fun q53 => ?_)
  dsimp only [putL, List.set_cons_zero, List.set_cons_succ, Option.toList, List.cons_append, List.nil_append]
  refine M.dup (pc := 56) rfl dX7_init_56 ?_
  refine M.invIN (pc := 57) (rest := [.ref q53, .ref a]) c_X4_init mi_X7_30 [10] rfl rfl rfl rfl (Nat.le_of_ble_eq_true rfl) rfl ⟨(Nat.le_of_ble_eq_true rfl), (Nat.le_of_ble_eq_true rfl)⟩ ⟨(Nat.le_of_ble_eq_true rfl), (Nat.le_of_ble_eq_true rfl)⟩ (fun u => [(q53, eO 4 [.ref u.1, .int (iI 0), .int (iI 0)])]) (fun u => [(u.1, eO 6 [.ref u.2, .int (iI 0)]), (u.2, eI G 48 (fun _ => 0))]) (fun _ => rfl) (fun _ => rfl) dX7_init_57 (fun u57 _ => ?_)
  obtain ⟨x57_0, x57_1⟩ := u57
  dsimp only [putL, List.set_cons_zero, List.set_cons_succ, Option.toList, List.cons_append, List.nil_append]
  refine M.putF (pc := 60) rfl fp_X7_35 0 rfl rfl rfl (Nat.le_of_ble_eq_true rfl) dX7_init_60 ?_
  dsimp only [putL, List.set_cons_zero, List.set_cons_succ, Option.toList, List.cons_append, List.nil_append]
  refine M.aloadn (pc := 63) 0 rfl rfl dX7_init_63 ?_
  refine M.new (pc := 64) (ci := 1) tyX1 tyX1_ok hwX1 nw_X7_38 in_X1 ii_X1 rfl dv_X1 ⟨(Nat.le_of_ble_eq_true rfl), (Nat.le_of_ble_eq_true rfl)⟩ dX7_init_64 (fun q64 => ?_)
  dsimp only [putL, List.set_cons_zero, List.set_cons_succ, Option.toList, List.cons_append, List.nil_append]
  refine M.dup (pc := 67) rfl dX7_init_67 ?_
  refine M.invIN (pc := 68) (rest := [.ref q64, .ref a]) c_X1_init mi_X7_40 [13] rfl rfl rfl rfl (Nat.le_of_ble_eq_true rfl) rfl ⟨(Nat.le_of_ble_eq_true rfl), (Nat.le_of_ble_eq_true rfl)⟩ ⟨(Nat.le_of_ble_eq_true rfl), (Nat.le_of_ble_eq_true rfl)⟩ (fun u => [(q64, eO 1 [.ref u.1, .ref u.2.1, .ref u.2.2.1, .ref u.2.2.2.1, .ref u.2.2.2.2, .int (iI 0)])]) (fun u => [(u.1, eI G 6 (fun _ => 0)), (u.2.1, eI G 6 (fun _ => 0)), (u.2.2.1, eI G 12 (fun _ => 0)), (u.2.2.2.1, eI G 12 (fun _ => 0)), (u.2.2.2.2, eI G 12 (fun _ => 0))]) (fun _ => rfl) (fun _ => rfl) dX7_init_68 (fun u68 _ => ?_)
  obtain ⟨x68_0, x68_1, x68_2, x68_3, x68_4⟩ := u68
  dsimp only [putL, List.set_cons_zero, List.set_cons_succ, Option.toList, List.cons_append, List.nil_append]
  refine M.putF (pc := 71) rfl fp_X7_41 0 rfl rfl rfl (Nat.le_of_ble_eq_true rfl) dX7_init_71 ?_
  dsimp only [putL, List.set_cons_zero, List.set_cons_succ, Option.toList, List.cons_append, List.nil_append]
  refine M.aloadn (pc := 74) 0 rfl rfl dX7_init_74 ?_
  refine M.new (pc := 75) (ci := 2) tyX2 tyX2_ok hwX2 nw_X7_45 in_X2 ii_X2 rfl dv_X2 ⟨(Nat.le_of_ble_eq_true rfl), (Nat.le_of_ble_eq_true rfl)⟩ dX7_init_75 (fun q75 => ?_)
  dsimp only [putL, List.set_cons_zero, List.set_cons_succ, Option.toList, List.cons_append, List.nil_append]
  refine M.dup (pc := 78) rfl dX7_init_78 ?_
  refine M.invIN (pc := 79) (rest := [.ref q75, .ref a]) c_X2_init mi_X7_47 [19] rfl rfl rfl rfl (Nat.le_of_ble_eq_true rfl) rfl ⟨(Nat.le_of_ble_eq_true rfl), (Nat.le_of_ble_eq_true rfl)⟩ ⟨(Nat.le_of_ble_eq_true rfl), (Nat.le_of_ble_eq_true rfl)⟩ (fun u => [(q75, eO 2 [.ref u.1, .ref u.2.2.2.2.2.2, .int (iI 0), .int (iI 0), .int (iI 0)])]) (fun u => [(u.1, eO 1 [.ref u.2.1, .ref u.2.2.1, .ref u.2.2.2.1, .ref u.2.2.2.2.1, .ref u.2.2.2.2.2.1, .int (iI 0)]), (u.2.1, eI G 6 (fun _ => 0)), (u.2.2.1, eI G 6 (fun _ => 0)), (u.2.2.2.1, eI G 12 (fun _ => 0)), (u.2.2.2.2.1, eI G 12 (fun _ => 0)), (u.2.2.2.2.2.1, eI G 12 (fun _ => 0)), (u.2.2.2.2.2.2, eI G 924 (fun _ => 0))]) (fun _ => rfl) (fun _ => rfl) dX7_init_79 (fun u79 _ => ?_)
  obtain ⟨x79_0, x79_1, x79_2, x79_3, x79_4, x79_5, x79_6⟩ := u79
  dsimp only [putL, List.set_cons_zero, List.set_cons_succ, Option.toList, List.cons_append, List.nil_append]
  refine M.putF (pc := 82) rfl fp_X7_48 0 rfl rfl rfl (Nat.le_of_ble_eq_true rfl) dX7_init_82 ?_
  dsimp only [putL, List.set_cons_zero, List.set_cons_succ, Option.toList, List.cons_append, List.nil_append]
  refine M.aloadn (pc := 85) 0 rfl rfl dX7_init_85 ?_
  refine M.new (pc := 86) (ci := 0) tyX0 tyX0_ok hwX0 nw_X7_52 in_X0 ii_X0 rfl dv_X0 ⟨(Nat.le_of_ble_eq_true rfl), (Nat.le_of_ble_eq_true rfl)⟩ dX7_init_86 (fun q86 => ?_)
  dsimp only [putL, List.set_cons_zero, List.set_cons_succ, Option.toList, List.cons_append, List.nil_append]
  refine M.dup (pc := 89) rfl dX7_init_89 ?_
  refine M.invIN (pc := 90) (rest := [.ref q86, .ref a]) c_X0_init mi_X7_54 [27] rfl rfl rfl rfl (Nat.le_of_ble_eq_true rfl) rfl ⟨(Nat.le_of_ble_eq_true rfl), (Nat.le_of_ble_eq_true rfl)⟩ ⟨(Nat.le_of_ble_eq_true rfl), (Nat.le_of_ble_eq_true rfl)⟩ (fun u => [(q86, eO 0 [.ref u.1, .ref u.2.1, .ref u.2.2.1, .ref u.2.2.2.1, .ref u.2.2.2.2.1, .ref u.2.2.2.2.2, .int (iI 0), .int (iI 0), .int (iI 0)])]) (fun u => [(u.1, eL G 128 (fun _ => 0)), (u.2.1, eI G 128 (fun _ => 0)), (u.2.2.1, eI G 1664 (fun _ => 0)), (u.2.2.2.1, eI G 13 (fun _ => 0)), (u.2.2.2.2.1, eI G 8192 (fun _ => 0)), (u.2.2.2.2.2, eI G 13 (fun _ => 0))]) (fun _ => rfl) (fun _ => rfl) dX7_init_90 (fun u90 _ => ?_)
  obtain ⟨x90_0, x90_1, x90_2, x90_3, x90_4, x90_5⟩ := u90
  dsimp only [putL, List.set_cons_zero, List.set_cons_succ, Option.toList, List.cons_append, List.nil_append]
  refine M.putF (pc := 93) rfl fp_X7_55 0 rfl rfl rfl (Nat.le_of_ble_eq_true rfl) dX7_init_93 ?_
  dsimp only [putL, List.set_cons_zero, List.set_cons_succ, Option.toList, List.cons_append, List.nil_append]
  refine M.aloadn (pc := 96) 0 rfl rfl dX7_init_96 ?_
  refine M.new (pc := 97) (ci := 3) tyX3 tyX3_ok hwX3 nw_X7_59 in_X3 ii_X3 rfl dv_X3 ⟨(Nat.le_of_ble_eq_true rfl), (Nat.le_of_ble_eq_true rfl)⟩ dX7_init_97 (fun q97 => ?_)
  dsimp only [putL, List.set_cons_zero, List.set_cons_succ, Option.toList, List.cons_append, List.nil_append]
  refine M.dup (pc := 100) rfl dX7_init_100 ?_
  refine M.invIN (pc := 101) (rest := [.ref q97, .ref a]) c_X3_init mi_X7_61 [34] rfl rfl rfl rfl (Nat.le_of_ble_eq_true rfl) rfl ⟨(Nat.le_of_ble_eq_true rfl), (Nat.le_of_ble_eq_true rfl)⟩ ⟨(Nat.le_of_ble_eq_true rfl), (Nat.le_of_ble_eq_true rfl)⟩ (fun u => [(q97, eO 3 [.ref u.1, .ref u.2, .int (iI 0), .int (iI 0), .int (iI (5))])]) (fun u => [(u.1, eI G 8 (fun _ => 0)), (u.2, eI G 24 (fun _ => 0))]) (fun _ => rfl) (fun _ => rfl) dX7_init_101 (fun u101 _ => ?_)
  obtain ⟨x101_0, x101_1⟩ := u101
  dsimp only [putL, List.set_cons_zero, List.set_cons_succ, Option.toList, List.cons_append, List.nil_append]
  refine M.putf (pc := 104) fp_X7_62 0 rfl rfl rfl (Nat.le_of_ble_eq_true rfl) dX7_init_104 ?_
  dsimp only [putL, List.set_cons_zero, List.set_cons_succ, Option.toList, List.cons_append, List.nil_append]
  refine M.aloadn (pc := 107) 0 rfl rfl dX7_init_107 ?_
  refine M.new (pc := 108) (ci := 3) tyX3 tyX3_ok hwX3 nw_X7_59 in_X3 ii_X3 rfl dv_X3 ⟨(Nat.le_of_ble_eq_true rfl), (Nat.le_of_ble_eq_true rfl)⟩ dX7_init_108 (fun q108 => ?_)
  dsimp only [putL, List.set_cons_zero, List.set_cons_succ, Option.toList, List.cons_append, List.nil_append]
  refine M.dup (pc := 111) rfl dX7_init_111 ?_
  refine M.invIN (pc := 112) (rest := [.ref q108, .ref a]) c_X3_init mi_X7_61 [37] rfl rfl rfl rfl (Nat.le_of_ble_eq_true rfl) rfl ⟨(Nat.le_of_ble_eq_true rfl), (Nat.le_of_ble_eq_true rfl)⟩ ⟨(Nat.le_of_ble_eq_true rfl), (Nat.le_of_ble_eq_true rfl)⟩ (fun u => [(q108, eO 3 [.ref u.1, .ref u.2, .int (iI 0), .int (iI 0), .int (iI (5))])]) (fun u => [(u.1, eI G 8 (fun _ => 0)), (u.2, eI G 24 (fun _ => 0))]) (fun _ => rfl) (fun _ => rfl) dX7_init_112 (fun u112 _ => ?_)
  obtain ⟨x112_0, x112_1⟩ := u112
  dsimp only [putL, List.set_cons_zero, List.set_cons_succ, Option.toList, List.cons_append, List.nil_append]
  refine M.putf (pc := 115) fp_X7_66 0 rfl rfl rfl (Nat.le_of_ble_eq_true rfl) dX7_init_115 ?_
  dsimp only [putL, List.set_cons_zero, List.set_cons_succ, Option.toList, List.cons_append, List.nil_append]
  exact EV (q5, x9_0, q16, x22_0, q29, x35_0, q42, x46_0, x46_1, q53, x57_0, x57_1, q64, x68_0, x68_1, x68_2, x68_3, x68_4, q75, x79_0, x79_1, x79_2, x79_3, x79_4, x79_5, x79_6, q86, x90_0, x90_1, x90_2, x90_3, x90_4, x90_5, q97, x101_0, x101_1, q108, x112_0, x112_1) _ _ _ dX7_init_118 rfl rfl rfl trivial
set_option maxHeartbeats 4000000 in
set_option maxRecDepth 100000 in
theorem c_X8_init {l : Launch} {G : GT} {a : Nat} : Con l G yX8_init cX8_init 1 none { frames := 1, cells := 14, slots := 10589, locals := 20 } [.ref a] [(a, eO 8 [.int (iI 0), .null, .int (iI 0), .null, .int (iI 0), .int (iI 0), .null, .int (iI 0), .null, .int (iI 0), .int (iI 0), .int (iI 0), .long (lI 0), .int (iI 0), .int (iI 0), .int (iI 0), .int (iI 0), .null, .int (iI 0), .null, .int (iI 0), .null, .null, .int (iI 0), .null, .null, .null, .int (iI 0), .int (iI 0), .null, .null, .null])] (S := Nat × Nat × Nat × Nat × Nat × Nat × Nat × Nat × Nat × Nat × Nat × Nat × Nat × Nat) (fun _ => none) (fun u => [(a, eO 8 [.int (iI (0)), .ref u.1, .int (iI 0), .ref u.2.1, .int (iI (5)), .int (iI 0), .ref u.2.2.1, .int (iI 0), .ref u.2.2.2.1, .int (iI 0), .int (iI (-1)), .int (iI 0), .long (lI 0), .int (iI 0), .int (iI 0), .int (iI 0), .int (iI 0), .ref u.2.2.2.2.1, .int (iI 0), .ref u.2.2.2.2.2.1, .int (iI 0), .ref u.2.2.2.2.2.2.1, .ref u.2.2.2.2.2.2.2.1, .int (iI 0), .ref u.2.2.2.2.2.2.2.2.1, .ref u.2.2.2.2.2.2.2.2.2.1, .ref u.2.2.2.2.2.2.2.2.2.2.1, .int (iI 0), .int (iI 0), .ref u.2.2.2.2.2.2.2.2.2.2.2.1, .ref u.2.2.2.2.2.2.2.2.2.2.2.2.1, .ref u.2.2.2.2.2.2.2.2.2.2.2.2.2])] ++ [(u.1, eI G 8 (fun _ => 0)), (u.2.1, eI G 24 (fun _ => 0)), (u.2.2.1, eI G 48 (fun _ => 0)), (u.2.2.2.1, eI G 400 (fun _ => 0)), (u.2.2.2.2.1, eI G 8 (fun _ => 0)), (u.2.2.2.2.2.1, eI G 24 (fun _ => 0)), (u.2.2.2.2.2.2.1, eI G 6 (fun _ => 0)), (u.2.2.2.2.2.2.2.1, eI G 6 (fun _ => 0)), (u.2.2.2.2.2.2.2.2.1, eI G 8192 (fun _ => 0)), (u.2.2.2.2.2.2.2.2.2.1, eI G 13 (fun _ => 0)), (u.2.2.2.2.2.2.2.2.2.2.1, eI G 1638 (fun _ => 0)), (u.2.2.2.2.2.2.2.2.2.2.2.1, eI G 120 (fun _ => 0)), (u.2.2.2.2.2.2.2.2.2.2.2.2.1, eI G 100 (fun _ => 0)), (u.2.2.2.2.2.2.2.2.2.2.2.2.2, eZ G 2 (fun _ => 0))]) (fun _ => True) := by
  refine Con.mk (by decide +kernel) [some (.ref a)] rfl (Nat.le_of_ble_eq_true rfl) rfl ?_
  intro V M EI EL EV EA
  refine M.aloadn (pc := 0) 0 rfl rfl dX8_init_0 ?_
  refine M.objI (pc := 1) lo_X8 ob_code rfl ⟨(Nat.le_of_ble_eq_true rfl), (Nat.le_of_ble_eq_true rfl)⟩ dX8_init_1 ?_
  refine M.aloadn (pc := 4) 0 rfl rfl dX8_init_4 ?_
  refine M.bipush (pc := 5) (by decide +kernel) dX8_init_5 ?_
  refine M.newaI (pc := 7) (N := 8) (by decide) (by decide) aw_int ⟨(Nat.le_of_ble_eq_true rfl), (Nat.le_of_ble_eq_true rfl)⟩ dX8_init_7 (fun q7 => ?_)
  dsimp only [putL, List.set_cons_zero, List.set_cons_succ, Option.toList, List.cons_append, List.nil_append]
  refine M.putF (pc := 9) rfl fp_X8_7 0 rfl rfl rfl (Nat.le_of_ble_eq_true rfl) dX8_init_9 ?_
  dsimp only [putL, List.set_cons_zero, List.set_cons_succ, Option.toList, List.cons_append, List.nil_append]
  refine M.aloadn (pc := 12) 0 rfl rfl dX8_init_12 ?_
  refine M.bipush (pc := 13) (by decide +kernel) dX8_init_13 ?_
  refine M.newaI (pc := 15) (N := 24) (by decide) (by decide) aw_int ⟨(Nat.le_of_ble_eq_true rfl), (Nat.le_of_ble_eq_true rfl)⟩ dX8_init_15 (fun q15 => ?_)
  dsimp only [putL, List.set_cons_zero, List.set_cons_succ, Option.toList, List.cons_append, List.nil_append]
  refine M.putF (pc := 17) rfl fp_X8_13 0 rfl rfl rfl (Nat.le_of_ble_eq_true rfl) dX8_init_17 ?_
  dsimp only [putL, List.set_cons_zero, List.set_cons_succ, Option.toList, List.cons_append, List.nil_append]
  refine M.aloadn (pc := 20) 0 rfl rfl dX8_init_20 ?_
  refine M.iconst (pc := 21) dX8_init_21 ?_
  refine M.putf (pc := 22) fp_X8_16 0 rfl rfl rfl (Nat.le_of_ble_eq_true rfl) dX8_init_22 ?_
  dsimp only [putL, List.set_cons_zero, List.set_cons_succ, Option.toList, List.cons_append, List.nil_append]
  refine M.aloadn (pc := 25) 0 rfl rfl dX8_init_25 ?_
  refine M.bipush (pc := 26) (by decide +kernel) dX8_init_26 ?_
  refine M.newaI (pc := 28) (N := 48) (by decide) (by decide) aw_int ⟨(Nat.le_of_ble_eq_true rfl), (Nat.le_of_ble_eq_true rfl)⟩ dX8_init_28 (fun q28 => ?_)
  dsimp only [putL, List.set_cons_zero, List.set_cons_succ, Option.toList, List.cons_append, List.nil_append]
  refine M.putF (pc := 30) rfl fp_X8_20 0 rfl rfl rfl (Nat.le_of_ble_eq_true rfl) dX8_init_30 ?_
  dsimp only [putL, List.set_cons_zero, List.set_cons_succ, Option.toList, List.cons_append, List.nil_append]
  refine M.aloadn (pc := 33) 0 rfl rfl dX8_init_33 ?_
  refine M.sipush (pc := 34) (by decide +kernel) dX8_init_34 ?_
  refine M.newaI (pc := 37) (N := 400) (by decide) (by decide) aw_int ⟨(Nat.le_of_ble_eq_true rfl), (Nat.le_of_ble_eq_true rfl)⟩ dX8_init_37 (fun q37 => ?_)
  dsimp only [putL, List.set_cons_zero, List.set_cons_succ, Option.toList, List.cons_append, List.nil_append]
  refine M.putF (pc := 39) rfl fp_X8_23 0 rfl rfl rfl (Nat.le_of_ble_eq_true rfl) dX8_init_39 ?_
  dsimp only [putL, List.set_cons_zero, List.set_cons_succ, Option.toList, List.cons_append, List.nil_append]
  refine M.aloadn (pc := 42) 0 rfl rfl dX8_init_42 ?_
  refine M.iconst (pc := 43) dX8_init_43 ?_
  refine M.putf (pc := 44) fp_X8_26 0 rfl rfl rfl (Nat.le_of_ble_eq_true rfl) dX8_init_44 ?_
  dsimp only [putL, List.set_cons_zero, List.set_cons_succ, Option.toList, List.cons_append, List.nil_append]
  refine M.aloadn (pc := 47) 0 rfl rfl dX8_init_47 ?_
  refine M.bipush (pc := 48) (by decide +kernel) dX8_init_48 ?_
  refine M.newaI (pc := 50) (N := 8) (by decide) (by decide) aw_int ⟨(Nat.le_of_ble_eq_true rfl), (Nat.le_of_ble_eq_true rfl)⟩ dX8_init_50 (fun q50 => ?_)
  dsimp only [putL, List.set_cons_zero, List.set_cons_succ, Option.toList, List.cons_append, List.nil_append]
  refine M.putF (pc := 52) rfl fp_X8_29 0 rfl rfl rfl (Nat.le_of_ble_eq_true rfl) dX8_init_52 ?_
  dsimp only [putL, List.set_cons_zero, List.set_cons_succ, Option.toList, List.cons_append, List.nil_append]
  refine M.aloadn (pc := 55) 0 rfl rfl dX8_init_55 ?_
  refine M.bipush (pc := 56) (by decide +kernel) dX8_init_56 ?_
  refine M.newaI (pc := 58) (N := 24) (by decide) (by decide) aw_int ⟨(Nat.le_of_ble_eq_true rfl), (Nat.le_of_ble_eq_true rfl)⟩ dX8_init_58 (fun q58 => ?_)
  dsimp only [putL, List.set_cons_zero, List.set_cons_succ, Option.toList, List.cons_append, List.nil_append]
  refine M.putF (pc := 60) rfl fp_X8_32 0 rfl rfl rfl (Nat.le_of_ble_eq_true rfl) dX8_init_60 ?_
  dsimp only [putL, List.set_cons_zero, List.set_cons_succ, Option.toList, List.cons_append, List.nil_append]
  refine M.aloadn (pc := 63) 0 rfl rfl dX8_init_63 ?_
  refine M.bipush (pc := 64) (by decide +kernel) dX8_init_64 ?_
  refine M.newaI (pc := 66) (N := 6) (by decide) (by decide) aw_int ⟨(Nat.le_of_ble_eq_true rfl), (Nat.le_of_ble_eq_true rfl)⟩ dX8_init_66 (fun q66 => ?_)
  dsimp only [putL, List.set_cons_zero, List.set_cons_succ, Option.toList, List.cons_append, List.nil_append]
  refine M.putF (pc := 68) rfl fp_X8_35 0 rfl rfl rfl (Nat.le_of_ble_eq_true rfl) dX8_init_68 ?_
  dsimp only [putL, List.set_cons_zero, List.set_cons_succ, Option.toList, List.cons_append, List.nil_append]
  refine M.aloadn (pc := 71) 0 rfl rfl dX8_init_71 ?_
  refine M.bipush (pc := 72) (by decide +kernel) dX8_init_72 ?_
  refine M.newaI (pc := 74) (N := 6) (by decide) (by decide) aw_int ⟨(Nat.le_of_ble_eq_true rfl), (Nat.le_of_ble_eq_true rfl)⟩ dX8_init_74 (fun q74 => ?_)
  dsimp only [putL, List.set_cons_zero, List.set_cons_succ, Option.toList, List.cons_append, List.nil_append]
  refine M.putF (pc := 76) rfl fp_X8_38 0 rfl rfl rfl (Nat.le_of_ble_eq_true rfl) dX8_init_76 ?_
  dsimp only [putL, List.set_cons_zero, List.set_cons_succ, Option.toList, List.cons_append, List.nil_append]
  refine M.aloadn (pc := 79) 0 rfl rfl dX8_init_79 ?_
  refine M.sipush (pc := 80) (by decide +kernel) dX8_init_80 ?_
  refine M.newaI (pc := 83) (N := 8192) (by decide) (by decide) aw_int ⟨(Nat.le_of_ble_eq_true rfl), (Nat.le_of_ble_eq_true rfl)⟩ dX8_init_83 (fun q83 => ?_)
  dsimp only [putL, List.set_cons_zero, List.set_cons_succ, Option.toList, List.cons_append, List.nil_append]
  refine M.putF (pc := 85) rfl fp_X8_41 0 rfl rfl rfl (Nat.le_of_ble_eq_true rfl) dX8_init_85 ?_
  dsimp only [putL, List.set_cons_zero, List.set_cons_succ, Option.toList, List.cons_append, List.nil_append]
  refine M.aloadn (pc := 88) 0 rfl rfl dX8_init_88 ?_
  refine M.bipush (pc := 89) (by decide +kernel) dX8_init_89 ?_
  refine M.newaI (pc := 91) (N := 13) (by decide) (by decide) aw_int ⟨(Nat.le_of_ble_eq_true rfl), (Nat.le_of_ble_eq_true rfl)⟩ dX8_init_91 (fun q91 => ?_)
  dsimp only [putL, List.set_cons_zero, List.set_cons_succ, Option.toList, List.cons_append, List.nil_append]
  refine M.putF (pc := 93) rfl fp_X8_44 0 rfl rfl rfl (Nat.le_of_ble_eq_true rfl) dX8_init_93 ?_
  dsimp only [putL, List.set_cons_zero, List.set_cons_succ, Option.toList, List.cons_append, List.nil_append]
  refine M.aloadn (pc := 96) 0 rfl rfl dX8_init_96 ?_
  refine M.sipush (pc := 97) (by decide +kernel) dX8_init_97 ?_
  refine M.newaI (pc := 100) (N := 1638) (by decide) (by decide) aw_int ⟨(Nat.le_of_ble_eq_true rfl), (Nat.le_of_ble_eq_true rfl)⟩ dX8_init_100 (fun q100 => ?_)
  dsimp only [putL, List.set_cons_zero, List.set_cons_succ, Option.toList, List.cons_append, List.nil_append]
  refine M.putF (pc := 102) rfl fp_X8_47 0 rfl rfl rfl (Nat.le_of_ble_eq_true rfl) dX8_init_102 ?_
  dsimp only [putL, List.set_cons_zero, List.set_cons_succ, Option.toList, List.cons_append, List.nil_append]
  refine M.aloadn (pc := 105) 0 rfl rfl dX8_init_105 ?_
  refine M.bipush (pc := 106) (by decide +kernel) dX8_init_106 ?_
  refine M.newaI (pc := 108) (N := 120) (by decide) (by decide) aw_int ⟨(Nat.le_of_ble_eq_true rfl), (Nat.le_of_ble_eq_true rfl)⟩ dX8_init_108 (fun q108 => ?_)
  dsimp only [putL, List.set_cons_zero, List.set_cons_succ, Option.toList, List.cons_append, List.nil_append]
  refine M.putF (pc := 110) rfl fp_X8_50 0 rfl rfl rfl (Nat.le_of_ble_eq_true rfl) dX8_init_110 ?_
  dsimp only [putL, List.set_cons_zero, List.set_cons_succ, Option.toList, List.cons_append, List.nil_append]
  refine M.aloadn (pc := 113) 0 rfl rfl dX8_init_113 ?_
  refine M.bipush (pc := 114) (by decide +kernel) dX8_init_114 ?_
  refine M.newaI (pc := 116) (N := 100) (by decide) (by decide) aw_int ⟨(Nat.le_of_ble_eq_true rfl), (Nat.le_of_ble_eq_true rfl)⟩ dX8_init_116 (fun q116 => ?_)
  dsimp only [putL, List.set_cons_zero, List.set_cons_succ, Option.toList, List.cons_append, List.nil_append]
  refine M.putF (pc := 118) rfl fp_X8_53 0 rfl rfl rfl (Nat.le_of_ble_eq_true rfl) dX8_init_118 ?_
  dsimp only [putL, List.set_cons_zero, List.set_cons_succ, Option.toList, List.cons_append, List.nil_append]
  refine M.aloadn (pc := 121) 0 rfl rfl dX8_init_121 ?_
  refine M.iconst (pc := 122) dX8_init_122 ?_
  refine M.newaZ (pc := 123) (N := 2) (by decide) (by decide) aw_boolean ⟨(Nat.le_of_ble_eq_true rfl), (Nat.le_of_ble_eq_true rfl)⟩ dX8_init_123 (fun q123 => ?_)
  dsimp only [putL, List.set_cons_zero, List.set_cons_succ, Option.toList, List.cons_append, List.nil_append]
  refine M.putF (pc := 125) rfl fp_X8_56 0 rfl rfl rfl (Nat.le_of_ble_eq_true rfl) dX8_init_125 ?_
  dsimp only [putL, List.set_cons_zero, List.set_cons_succ, Option.toList, List.cons_append, List.nil_append]
  refine M.aloadn (pc := 128) 0 rfl rfl dX8_init_128 ?_
  refine M.iconst (pc := 129) dX8_init_129 ?_
  refine M.putf (pc := 130) fp_X8_60 0 rfl rfl rfl (Nat.le_of_ble_eq_true rfl) dX8_init_130 ?_
  dsimp only [putL, List.set_cons_zero, List.set_cons_succ, Option.toList, List.cons_append, List.nil_append]
  exact EV (q7, q15, q28, q37, q50, q58, q66, q74, q83, q91, q100, q108, q116, q123) _ _ _ dX8_init_133 rfl rfl rfl trivial
