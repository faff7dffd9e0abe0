set_option maxHeartbeats 4000000 in
set_option maxRecDepth 100000 in
/-- Line.length() -/
theorem c_X1_length (l : Launch) {G : va_G} {g : Nat → ClassId} {t0 τ : Nat → Nat} {A : Nat → Prop} (O : xk_O τ A) (M : xm_T) (q : Nat) (hτ : τ q = 6) : Met l yX1_length wsX1_length ({ frames := 0, cells := 0, slots := 0, locals := 0 }) (va_Pc [.ref q] (xS_t G g t0 τ A M)) (va_Qi (fun r M' => r = M q 1 ∧ M' = M) (fun M' t => xw_D G g τ M' t.heap) A) 0 0 A := by
  refine Met.ofW (cc := cX1_length) (maxL := 1) (ret := (some .int)) (by decide) rfl ?_
  intro p e s m args below meth c s₁ B hml hv
  obtain ⟨rfl, hW, hK, hst, hnw⟩ := hv
  have hx := B.exec
  have hb := B.bytes
  have hr := B.returns
  have hts := atoms_spec (ws := wsX1_length) B.pre
  have hown : s.vm.findClass RX1 = some m.cls := findClass_of_methodNamed B.named
  have hlocks := B.notSynchronized
  have hS : va_S A s.heap s.heap [] := va_S.rf
  have inX1 : ∀ w ∈ u_ws RX1 TX1 2, w ∈ wsX1_length := by decide +kernel
  have hl := lv_entry ([.ref q]) (n := 1) (Nat.le_of_ble_eq_true rfl)
  rw [lg_entry_eq]
  generalize (lg_sl ([.ref q]) ++ List.replicate (1 - (lg_sl ([.ref q])).length) Slot.unset).toArray = ls at hl ⊢
  have hl : lv_has ls 1 [(0, .ref q)] := hl
  refine lv_aload_n hx hb dX1_length_0 rfl (lv_at hl 0 rfl) ?_
  refine xg_get (κ := 6) (ci := 1) (C := RX1) (T := TX1) (N := 2) hx hb hts inX1 hown hK hW hτ (by decide) rfl rfl 1 (by decide) (hts (.fieldLink RX1 15 "HalfTickets$Line" "length" "I") (List.mem_of_getElem? (i := 1) (by decide +kernel))) (fun _ h9 => h9) rfl dX1_length_1 ?_
  exact W.iret (v := (M q 1)) hx hb hr (fun t ht hWm => ⟨⟨(M q 1), M, rfl, ⟨rfl, rfl⟩, xw_end ht hW⟩, hS.F ht⟩) hS.2.2 dX1_length_4

def xf_at (M : xm_T) (q : Nat) (i : Int32) : Int32 := if i < 0 then -6 else if M q 1 ≤ i then -6 else M (q + 1) i.toNatClampNeg
theorem xi_nI {i : Int32} (h : ¬ i < 0) : i = nI i.toNatClampNeg := by
  obtain ⟨j, hj, rfl⟩ := nI_of h
  rw [nI_clamp hj]
theorem xi_lt {i : Int32} {n : Nat} (h : ¬ i < 0) (h2 : ¬ nI n ≤ i) (hn : n < 2 ^ 31) : i.toNatClampNeg < n := by
  obtain ⟨j, hj, rfl⟩ := nI_of h
  rw [nI_clamp hj]
  exact Nat.not_le.mp fun q => h2 (nI_le q hj)

set_option maxHeartbeats 4000000 in
set_option maxRecDepth 100000 in
/-- Line.numberAt(i) -/
theorem c_X1_numberAt (l : Launch) {G : va_G} {g : Nat → ClassId} {t0 τ : Nat → Nat} {A : Nat → Prop} (O : xk_O τ A) (M : xm_T) (q : Nat) (hτ : τ q = 6) (i : Int32) {n : Nat} (hn : n ≤ 24) (hM : M q 1 = nI n) : Met l yX1_numberAt wsX1_numberAt ({ frames := 0, cells := 0, slots := 0, locals := 0 }) (va_Pc [.ref q, .int i] (xS_t G g t0 τ A M)) (va_Qi (fun r M' => r = xf_at M q i ∧ M' = M) (fun M' t => xw_D G g τ M' t.heap) A) 0 0 A := by
  refine Met.ofW (cc := cX1_numberAt) (maxL := 2) (ret := (some .int)) (by decide) rfl ?_
  intro p e s m args below meth c s₁ B hml hv
  obtain ⟨rfl, hW, hK, hst, hnw⟩ := hv
  have hx := B.exec
  have hb := B.bytes
  have hr := B.returns
  have hts := atoms_spec (ws := wsX1_numberAt) B.pre
  have hown : s.vm.findClass RX1 = some m.cls := findClass_of_methodNamed B.named
  have hlocks := B.notSynchronized
  have hS : va_S A s.heap s.heap [] := va_S.rf
  have inX1 : ∀ w ∈ u_ws RX1 TX1 2, w ∈ wsX1_numberAt := by decide +kernel
  have hl := lv_entry ([.ref q, .int i]) (n := 2) (Nat.le_of_ble_eq_true rfl)
  rw [lg_entry_eq]
  generalize (lg_sl ([.ref q, .int i]) ++ List.replicate (2 - (lg_sl ([.ref q, .int i])).length) Slot.unset).toArray = ls at hl ⊢
  have hl : lv_has ls 2 [(0, .ref q), (1, .int i)] := hl
  refine lv_iload_n hx hb dX1_numberAt_0 rfl (lv_at hl 1 rfl) ?_
  refine lv_if_lt (tgt := 21) hx hb dX1_numberAt_1 (by decide) (fun c_1 => ?_) (fun c_1 => ?_)
  · have hres : (-6 : Int32) = xf_at M q i := by unfold xf_at; rw [if_pos c_1]
    refine lv_bipush (v := (-6)) hx hb dX1_numberAt_21 (by decide) ?_
    exact W.iret (v := (-6)) hx hb hr (fun t ht hWm => ⟨⟨(-6), M, rfl, ⟨hres, rfl⟩, xw_end ht hW⟩, hS.F ht⟩) hS.2.2 dX1_numberAt_23
  · refine lv_iload_n hx hb dX1_numberAt_4 rfl (lv_at hl 1 rfl) ?_
    refine lv_aload_n hx hb dX1_numberAt_5 rfl (lv_at hl 0 rfl) ?_
    refine xg_get (κ := 6) (ci := 1) (C := RX1) (T := TX1) (N := 2) hx hb hts inX1 hown hK hW hτ (by decide) rfl rfl 1 (by decide) (hts (.fieldLink RX1 15 "HalfTickets$Line" "length" "I") (List.mem_of_getElem? (i := 1) (by decide +kernel))) (fun _ h9 => h9) rfl dX1_numberAt_6 ?_
    refine lv_icmp_ge (tgt := 21) hx hb dX1_numberAt_9 (by decide) (fun c_2 => ?_) (fun c_2 => ?_)
    · have hres : (-6 : Int32) = xf_at M q i := by unfold xf_at; rw [if_neg c_1, if_pos c_2]
      refine lv_bipush (v := (-6)) hx hb dX1_numberAt_21 (by decide) ?_
      exact W.iret (v := (-6)) hx hb hr (fun t ht hWm => ⟨⟨(-6), M, rfl, ⟨hres, rfl⟩, xw_end ht hW⟩, hS.F ht⟩) hS.2.2 dX1_numberAt_23
    · have hres : M (q + 1) i.toNatClampNeg = xf_at M q i := by unfold xf_at; rw [if_neg c_1, if_neg c_2]
      refine lv_aload_n hx hb dX1_numberAt_12 rfl (lv_at hl 0 rfl) ?_
      refine xg_get (κ := 6) (ci := 1) (C := RX1) (T := TX1) (N := 2) hx hb hts inX1 hown hK hW hτ (by decide) rfl rfl 0 (by decide) (hts (.fieldLink RX1 9 "HalfTickets$Line" "numbers" "[I") (List.mem_of_getElem? (i := 2) (by decide +kernel))) (fun _ h9 => h9) rfl dX1_numberAt_13 ?_
      refine lv_iload_n hx hb dX1_numberAt_16 rfl (lv_at hl 1 rfl) ?_
      refine xg_iald (κ := 124) (n := 24) hx hb hK hW (O.l hτ) (by decide) rfl i.toNatClampNeg (xi_nI c_1) (by have := xi_lt c_1 (by rw [← hM]; exact c_2) (by omega); omega) (by decide) dX1_numberAt_17 ?_
      refine lv_goto (tgt := 23) hx hb dX1_numberAt_18 (by decide) ?_
      exact W.iret (v := (M (q + 1) i.toNatClampNeg)) hx hb hr (fun t ht hWm => ⟨⟨(M (q + 1) i.toNatClampNeg), M, rfl, ⟨hres, rfl⟩, xw_end ht hW⟩, hS.F ht⟩) hS.2.2 dX1_numberAt_23

set_option maxHeartbeats 4000000 in
set_option maxRecDepth 100000 in
/-- Person.goAs(x, y) -/
theorem c_X4_goAs (l : Launch) {G : va_G} {g : Nat → ClassId} {t0 τ : Nat → Nat} {A : Nat → Prop} (O : xk_O τ A) (M : xm_T) (a : Nat) (hτ : τ a = 8) (x y : Int32) : Met l yX4_goAs wsX4_goAs ({ frames := 0, cells := 0, slots := 0, locals := 0 }) (va_Pc [.ref a, .int x, .int y] (xS_t G g t0 τ A M)) (va_Qv (fun M' => M' = xu_p (xu_p (xu_p M a 3 x) a 5 (nI 0)) a 10 y) (fun M' t => xw_D G g τ M' t.heap) A) 0 0 A := by
  refine Met.ofW (cc := cX4_goAs) (maxL := 3) (ret := none) (by decide) rfl ?_
  intro p e s m args below meth c s₁ B hml hv
  obtain ⟨rfl, hW, hK, hst, hnw⟩ := hv
  have hx := B.exec
  have hb := B.bytes
  have hr := B.returns
  have hts := atoms_spec (ws := wsX4_goAs) B.pre
  have hown : s.vm.findClass RX4 = some m.cls := findClass_of_methodNamed B.named
  have hlocks := B.notSynchronized
  have hS : va_S A s.heap s.heap [] := va_S.rf
  have inX4 : ∀ w ∈ u_ws RX4 TX4 12, w ∈ wsX4_goAs := by decide +kernel
  have hl := lv_entry ([.ref a, .int x, .int y]) (n := 3) (Nat.le_of_ble_eq_true rfl)
  rw [lg_entry_eq]
  generalize (lg_sl ([.ref a, .int x, .int y]) ++ List.replicate (3 - (lg_sl ([.ref a, .int x, .int y])).length) Slot.unset).toArray = ls at hl ⊢
  have hl : lv_has ls 3 [(0, .ref a), (1, .int x), (2, .int y)] := hl
  refine lv_aload_n hx hb dX4_goAs_0 rfl (lv_at hl 0 rfl) ?_
  refine lv_iload_n hx hb dX4_goAs_1 rfl (lv_at hl 1 rfl) ?_
  refine xg_put (κ := 8) (ci := 4) (C := RX4) (T := TX4) (N := 12) hx hb hts inX4 tyX4 tyX4_ok nmX4 hown hK O hW hS hτ (by decide) rfl rfl 3 (by decide) (v := x) rfl (xw_okp hW hτ (by decide)) (hts (.fieldLink RX4 15 "HalfTickets$Person" "where" "I") (List.mem_of_getElem? (i := 1) (by decide +kernel))) (fun _ h9 => h9) rfl (ty := .int) (by decide +kernel) rfl rfl (Nat.le_of_ble_eq_true rfl) dX4_goAs_2 (fun H locs hW hS => ?_)
  obtain ⟨M_1, eM_1⟩ : ∃ M9, M9 = xu_p M a 3 x := ⟨_, rfl⟩
  rw [← eM_1] at hW
  refine lv_aload_n hx hb dX4_goAs_5 rfl (lv_at hl 0 rfl) ?_
  refine lv_iconst (v := (nI 0)) hx hb dX4_goAs_6 (by decide) ?_
  refine xg_put (κ := 8) (ci := 4) (C := RX4) (T := TX4) (N := 12) hx hb hts inX4 tyX4 tyX4_ok nmX4 hown hK O hW hS hτ (by decide) rfl rfl 5 (by decide) (v := (nI 0)) rfl ⟨xb_0, (xw_okp hW hτ (by decide)).2⟩ (hts (.fieldLink RX4 37 "HalfTickets$Person" "hasHalf" "Z") (List.mem_of_getElem? (i := 2) (by decide +kernel))) (fun _ h9 => h9) rfl (ty := .boolean) (by decide +kernel) (xb_nar xb_0) (xb_fit xb_0) (Nat.le_of_ble_eq_true rfl) dX4_goAs_7 (fun H locs hW hS => ?_)
  obtain ⟨M_2, eM_2⟩ : ∃ M9, M9 = xu_p M_1 a 5 (nI 0) := ⟨_, rfl⟩
  rw [← eM_2] at hW
  refine lv_aload_n hx hb dX4_goAs_10 rfl (lv_at hl 0 rfl) ?_
  refine lv_iload_n hx hb dX4_goAs_11 rfl (lv_at hl 2 rfl) ?_
  refine xg_put (κ := 8) (ci := 4) (C := RX4) (T := TX4) (N := 12) hx hb hts inX4 tyX4 tyX4_ok nmX4 hown hK O hW hS hτ (by decide) rfl rfl 10 (by decide) (v := y) rfl (xw_okp hW hτ (by decide)) (hts (.fieldLink RX4 19 "HalfTickets$Person" "goneBehind" "I") (List.mem_of_getElem? (i := 3) (by decide +kernel))) (fun _ h9 => h9) rfl (ty := .int) (by decide +kernel) rfl rfl (Nat.le_of_ble_eq_true rfl) dX4_goAs_12 (fun H locs hW hS => ?_)
  obtain ⟨M_3, eM_3⟩ : ∃ M9, M9 = xu_p M_2 a 10 y := ⟨_, rfl⟩
  rw [← eM_3] at hW
  exact W.vret hx hb hr (fun t ht hWm => ⟨⟨M_3, rfl, (by subst_vars; rfl), xw_end ht hW⟩, hS.F ht⟩) hS.2.2 dX4_goAs_15
