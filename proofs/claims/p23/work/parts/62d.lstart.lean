/-! THE LAW'S START: classes, arrays, nest words, statics -/
theorem xl_arrI {s : State} {A : Array Value} {ty : FieldType} (h : (Cond.arrayClass ty).before A s = true) : ∃ c : ClassId, ArrOfT s c ty ∧ s.vm.findClass ("[" ++ ty.toString) = some c := by
  obtain ⟨c, k, comp, h1, h2, h3⟩ := Cond.arrayClass_spec h
  exact ⟨c, fun n z => ⟨fun k h => (by cases h), k, h2, comp, h3⟩, h1⟩
theorem xl_arrO {s : State} {A : Array Value} {C : String} (h : (Cond.arrayOver (.object C)).before A s = true) : ∃ c : ClassId, ArrOfT s c (.object C) ∧ va_RA s c (.object C) := by
  obtain ⟨comp, c, k, h1, -, h3, h4, h5⟩ := Cond.arrayOver_spec h
  exact ⟨c, fun n z => ⟨fun k h => (by cases h), k, h3, comp, h4⟩, k, comp, h3, h4, h1, h5⟩
set_option maxRecDepth 20000 in
theorem xl_K {s : State} {b : Nat} (hts : ∀ w ∈ lw_tbl, w.before #[Value.ref b] s = true) : ∃ (G : va_G) (g : Nat → ClassId), va_K G vwCl (xw_tys g) s ∧ xw_nw g s := by
  obtain ⟨c0, i0, k0⟩ := u_known (C := RX0) (T := TX0) (N := 3) hts inX0 (hts (.instantiable RX0 3) (by decide +kernel))
  obtain ⟨c1, i1, k1⟩ := u_known (C := RX1) (T := TX1) (N := 2) hts inX1 (hts (.instantiable RX1 2) (by decide +kernel))
  obtain ⟨c2, i2, k2⟩ := u_known (C := RX2) (T := TX2) (N := 7) hts inX2 (hts (.instantiable RX2 7) (by decide +kernel))
  obtain ⟨c3, i3, k3⟩ := u_known (C := RX3) (T := TX3) (N := 2) hts inX3 (hts (.instantiable RX3 2) (by decide +kernel))
  obtain ⟨c4, i4, k4⟩ := u_known (C := RX4) (T := TX4) (N := 12) hts inX4 (hts (.instantiable RX4 12) (by decide +kernel))
  obtain ⟨c5, i5, k5⟩ := u_known (C := RX5) (T := TX5) (N := 7) hts inX5 (hts (.instantiable RX5 7) (by decide +kernel))
  obtain ⟨c6, i6, k6⟩ := u_known (C := RX6) (T := TX6) (N := 6) hts inX6 (hts (.instantiable RX6 6) (by decide +kernel))
  obtain ⟨a0, p0, q0⟩ := xl_arrI (hts (.arrayClass .int) (by decide +kernel))
  obtain ⟨a1, p1, q1⟩ := xl_arrI (hts (.arrayClass .boolean) (by decide +kernel))
  obtain ⟨a2, p2, q2⟩ := xl_arrI (hts (.arrayClass .char) (by decide +kernel))
  have o5 := hts (.arrayOver (.object RX5)) (by decide +kernel)
  have o4 := hts (.arrayOver (.object RX4)) (by decide +kernel)
  have o2 := hts (.arrayOver (.object RX2)) (by decide +kernel)
  obtain ⟨a3, p3, q3⟩ := xl_arrO o5
  obtain ⟨a4, p4, q4⟩ := xl_arrO o4
  obtain ⟨a5, p5, q5⟩ := xl_arrO o2
  refine ⟨((fun c => match c with | 0 => c0 | 1 => c1 | 2 => c2 | 3 => c3 | 4 => c4 | 5 => c5 | _ => c6), (fun c => match c with | 0 => i0 | 1 => i1 | 2 => i2 | 3 => i3 | 4 => i4 | 5 => i5 | _ => i6)), (fun k => match k with | 0 => a0 | 1 => a1 | 2 => a2 | 3 => a3 | 4 => a4 | _ => a5), ⟨fun c q hq => ?_, fun k q hq => ?_⟩, ?_⟩
  · match c, hq with
    | 0, hq => cases hq; exact k0
    | 1, hq => cases hq; exact k1
    | 2, hq => cases hq; exact k2
    | 3, hq => cases hq; exact k3
    | 4, hq => cases hq; exact k4
    | 5, hq => cases hq; exact k5
    | 6, hq => cases hq; exact k6
    | n + 7, hq => cases hq
  · match k, hq with
    | 0, hq => cases hq; exact ⟨p0, q0⟩
    | 1, hq => cases hq; exact ⟨p1, q1⟩
    | 2, hq => cases hq; exact ⟨p2, q2⟩
    | 3, hq => cases hq; exact ⟨p3, q3⟩
    | 4, hq => cases hq; exact ⟨p4, q4⟩
    | 5, hq => cases hq; exact ⟨p5, q5⟩
    | n + 6, hq => cases hq
  · exact ⟨va_Nw.of rfl (hts (.fieldLinkNest RX2 9 RX6 "FIRST_SETTING" "[I" RX6) (by decide +kernel)), va_Nw.of rfl (hts (.castable "[I" "java/lang/Cloneable") (by decide +kernel)), va_Nw.of rfl (hts (.methodLinkNest RX5 19 yX1_init RX6) (by decide +kernel)), va_Nw.of rfl (hts (.methodLinkNest RX6 36 yX3_init RX6) (by decide +kernel)), va_AO.of o2, va_AO.of o4, va_AO.of o5, q0⟩
theorem xl_size {args : Array Value} {s : State} {t : Term} (h : (Term.length t).eval args s none [] s = some (.int 3)) : ∃ (a : Nat) (cell : Cell), t.eval args s none [] s = some (.ref a) ∧ s.heap[a]? = some cell ∧ cell.vm ≠ .unknown ∧ cell.vm.isStatics = false ∧ cell.slots.size = 3 := by
  obtain ⟨a, cell, ht, hat, hv⟩ := Term.length_spec h
  obtain ⟨hcell, hkn, hst, -⟩ := State.arrayAt?_spec hat
  refine ⟨a, cell, ht, hcell, hkn, hst, ?_⟩
  have hsm : cell.slots.size < 2147483648 := by
    by_cases hn : cell.slots.size < 2147483648
    · exact hn
    · simp only [Term.eval, Option.bind_eq_bind] at h
      simp [ht, hat, hn] at h
  have h3 : Int32.ofNat cell.slots.size = Int32.ofNat 3 := (Value.int.inj hv).symm
  have h4 := congrArg Int32.toInt h3
  rw [Int32.toInt_ofNat_of_lt hsm, Int32.toInt_ofNat_of_lt (by decide)] at h4
  omega
theorem xl_T {args : Array Value} {s : State} {n : String} {f : Nat → Int32} {A : Nat → Prop} (harr : (Cond.arrayOf (.static "HalfTickets" n "[I") .int).before args s = true) (hlen : (Cond.eq (.length (.static "HalfTickets" n "[I")) (.int 3)).before args s = true)
    (h0 : (Cond.eq (.elem (.static "HalfTickets" n "[I") (.int 0)) (.int (f 0))).before args s = true) (h1 : (Cond.eq (.elem (.static "HalfTickets" n "[I") (.int 1)) (.int (f 1))).before args s = true) (h2 : (Cond.eq (.elem (.static "HalfTickets" n "[I") (.int 2)) (.int (f 2))).before args s = true)
    (hl : (Cond.laysStatic "HalfTickets" n "[I").before args s = true) (hini : (Cond.initialized "HalfTickets").before args s = true) (hA : ∀ a : Nat, a < s.heap.size → ¬ A a) : ∃ t : Nat, (Term.static "HalfTickets" n "[I").eval args s none [] s = some (.ref t) ∧ va_Z RX6 n "[I" (.ref t) A s s.heap ∧ va_T .int t 3 (fun j => .int (f j)) A s s.heap := by
  obtain ⟨t, ht, hT⟩ := va_Tof (tm := .static "HalfTickets" n "[I") (N := 3) (f := fun j => .int (f j)) (A := A) (by decide) harr (va_eqt hlen) (fun j hj => by
    rcases (show j = 0 ∨ j = 1 ∨ j = 2 by omega) with rfl | rfl | rfl
    · exact va_eqt h0
    · exact va_eqt h1
    · exact va_eqt h2) hA
  exact ⟨t, ht, va_Zref hl hini ht hA, hT⟩
theorem xl_C {args : Array Value} {s : State} {n : String} {A : Nat → Prop} {t : Nat} (ht : (Term.static "HalfTickets" n "[I").eval args s none [] s = some (.ref t)) (hlen : (Cond.eq (.length (.static "HalfTickets" n "[I")) (.int 3)).before args s = true) (hex : (Cond.exactly (.static "HalfTickets" n "[I") "[I").before args s = true) (hT : va_T .int t 3 (fun j => .int (xs_0 j)) A s s.heap) : xs_C t A s s.heap := by
  obtain ⟨a, cell, e1, e2, e3, e4, e5⟩ := xl_size (va_eqt hlen)
  cases ht.symm.trans e1
  obtain ⟨a, c, cell2, k, f1, f2, f3, -, -, f6, -⟩ := Cond.exactly_spec hex
  cases ht.symm.trans f1
  cases e2.symm.trans f3
  obtain ⟨cell3, g1, -, -, -, -, g6, g7⟩ := hT
  cases e2.symm.trans g1
  exact ⟨cell, e2, e5, e3, (fun k hk => by rw [hk] at e4; cases e4), (by rw [f2, f6]), g6, g7⟩
set_option maxRecDepth 20000 in
theorem xl_st {s : State} {b : Nat} (hts : ∀ w ∈ lw_tbl, w.before #[Value.ref b] s = true) (hgv : (Jvm.Cond.and given_1 narrow_1).before #[Value.ref b] s = true) {A : Nat → Prop} (hA : ∀ a : Nat, a < s.heap.size → ¬ A a) : ∃ t0 : Nat → Nat, xw_st t0 A s s.heap := by
  have hs := flat_of_before _ hgv
  have hini := hts (.initialized "HalfTickets") (by decide +kernel)
  obtain ⟨x0, e0, z0, w0⟩ := xl_T (n := "FIRST_SETTING") (f := xs_0) (A := A) (hs _ (by decide +kernel)) (hs _ (by decide +kernel)) (hs (Cond.eq (.elem (.static "HalfTickets" "FIRST_SETTING" "[I") (.int 0)) (.int 2)) (by decide +kernel)) (hs (Cond.eq (.elem (.static "HalfTickets" "FIRST_SETTING" "[I") (.int 1)) (.int 8)) (by decide +kernel)) (hs (Cond.eq (.elem (.static "HalfTickets" "FIRST_SETTING" "[I") (.int 2)) (.int 0)) (by decide +kernel)) (hts _ (by decide +kernel)) hini hA
  obtain ⟨x1, e1, z1, w1⟩ := xl_T (n := "LOWEST_SETTING") (f := xs_1) (A := A) (hs _ (by decide +kernel)) (hs _ (by decide +kernel)) (hs (Cond.eq (.elem (.static "HalfTickets" "LOWEST_SETTING" "[I") (.int 0)) (.int 1)) (by decide +kernel)) (hs (Cond.eq (.elem (.static "HalfTickets" "LOWEST_SETTING" "[I") (.int 1)) (.int 0)) (by decide +kernel)) (hs (Cond.eq (.elem (.static "HalfTickets" "LOWEST_SETTING" "[I") (.int 2)) (.int 0)) (by decide +kernel)) (hts _ (by decide +kernel)) hini hA
  obtain ⟨x2, e2, z2, w2⟩ := xl_T (n := "HIGHEST_SETTING") (f := xs_2) (A := A) (hs _ (by decide +kernel)) (hs _ (by decide +kernel)) (hs (Cond.eq (.elem (.static "HalfTickets" "HIGHEST_SETTING" "[I") (.int 0)) (.int 6)) (by decide +kernel)) (hs (Cond.eq (.elem (.static "HalfTickets" "HIGHEST_SETTING" "[I") (.int 1)) (.int 20)) (by decide +kernel)) (hs (Cond.eq (.elem (.static "HalfTickets" "HIGHEST_SETTING" "[I") (.int 2)) (.int 60)) (by decide +kernel)) (hts _ (by decide +kernel)) hini hA
  exact ⟨fun k => match k with | 0 => x0 | 1 => x1 | _ => x2, ⟨z0, w0⟩, ⟨z1, w1⟩, ⟨z2, w2⟩, xl_C e0 (hs _ (by decide +kernel)) (hs _ (by decide +kernel)) w0⟩
