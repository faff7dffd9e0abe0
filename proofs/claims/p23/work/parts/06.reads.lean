def xf_win (a : Nat) (i : Int32) : Option Nat := if i < 0 then none else if nI 6 ≤ i then none else some (a + 5 * i.toNatClampNeg + 4)
def xf_per (M : xm_T) (a : Nat) (i : Int32) : Option Nat := if i < 0 then none else if M a 3 ≤ i then none else if nI 24 ≤ i then none else some (a + 2 * i.toNatClampNeg + 34)
def xf_sum (f : Nat → Int32) : Nat → Int32
  | 0 => nI 0
  | n + 1 => xf_sum f n + f n
theorem xf_win_s (a : Nat) {k : Nat} (hk : k < 6) : xf_win a (nI k) = some (a + 5 * k + 4) := by
  unfold xf_win
  rw [if_neg (nI_pos (by omega)), if_neg (nI_ge hk (by omega)), nI_clamp (by omega)]
theorem xf_win_n (a : Nat) {i : Int32} (h : i < 0 ∨ nI 6 ≤ i) : xf_win a i = none := by
  unfold xf_win
  by_cases h1 : i < 0
  · rw [if_pos h1]
  · rw [if_neg h1, if_pos (h.resolve_left h1)]

set_option maxHeartbeats 4000000 in
set_option maxRecDepth 100000 in
/-- Ministry.windowAt(i) -/
theorem c_X2_windowAt (l : Launch) {G : va_G} {g : Nat → ClassId} {t0 τ : Nat → Nat} {A : Nat → Prop} (O : xk_O τ A) (M : xm_T) (a : Nat) (hτ : τ a = 1) (i : Int32) : Met l yX2_windowAt wsX2_windowAt ({ frames := 0, cells := 0, slots := 0, locals := 0 }) (va_Pc [.ref a, .int i] (xS_t G g t0 τ A M)) (va_Qq (fun r M' => r = xf_win a i ∧ M' = M) (fun M' t => xw_D G g τ M' t.heap) A) 0 0 A := by
  refine Met.ofW (cc := cX2_windowAt) (maxL := 2) (ret := (some (.object "HalfTickets$Window"))) (by decide) rfl ?_
  intro p e s m args below meth c s₁ B hml hv
  obtain ⟨rfl, hW, hK, hst, hnw⟩ := hv
  have hx := B.exec
  have hb := B.bytes
  have hr := B.returns
  have hts := atoms_spec (ws := wsX2_windowAt) B.pre
  have hown : s.vm.findClass RX2 = some m.cls := findClass_of_methodNamed B.named
  have hlocks := B.notSynchronized
  have hS : va_S A s.heap s.heap [] := va_S.rf
  have inX2 : ∀ w ∈ u_ws RX2 TX2 7, w ∈ wsX2_windowAt := by decide +kernel
  have hl := lv_entry ([.ref a, .int i]) (n := 2) (Nat.le_of_ble_eq_true rfl)
  rw [lg_entry_eq]
  generalize (lg_sl ([.ref a, .int i]) ++ List.replicate (2 - (lg_sl ([.ref a, .int i])).length) Slot.unset).toArray = ls at hl ⊢
  have hl : lv_has ls 2 [(0, .ref a), (1, .int i)] := hl
  refine lv_iload_n hx hb dX2_windowAt_0 rfl (lv_at hl 1 rfl) ?_
  refine lv_if_lt (tgt := 22) hx hb dX2_windowAt_1 (by decide) (fun c_1 => ?_) (fun c_1 => ?_)
  · have hres : none = xf_win a i := by unfold xf_win; rw [if_pos c_1]
    refine lv_null hx hb dX2_windowAt_22 ?_
    exact W.aret (v := .null) hx hb hr (Or.inl ⟨_, rfl⟩) (Or.inl rfl) (fun t ht hWm => ⟨⟨none, M, rfl, ⟨hres, rfl⟩, xw_end ht hW⟩, hS.F ht⟩) hS.2.2 dX2_windowAt_23
  · refine lv_iload_n hx hb dX2_windowAt_4 rfl (lv_at hl 1 rfl) ?_
    refine lv_aload_n hx hb dX2_windowAt_5 rfl (lv_at hl 0 rfl) ?_
    refine xg_get (κ := 1) (ci := 2) (C := RX2) (T := TX2) (N := 7) hx hb hts inX2 hown hK hW hτ (by decide) rfl rfl 1 (by decide) (hts (.fieldLink RX2 25 "HalfTickets$Ministry" "windows" "[LHalfTickets$Window;") (List.mem_of_getElem? (i := 1) (by decide +kernel))) (fun _ h9 => h9) rfl dX2_windowAt_6 ?_
    refine xg_alen (κ := 3) (v := nI 6) hx hb hK hW (O.m2 hτ) (by decide) rfl 3 rfl rfl dX2_windowAt_9 ?_
    refine lv_icmp_ge (tgt := 22) hx hb dX2_windowAt_10 (by decide) (fun c_2 => ?_) (fun c_2 => ?_)
    · have hres : none = xf_win a i := by unfold xf_win; rw [if_neg c_1, if_pos c_2]
      refine lv_null hx hb dX2_windowAt_22 ?_
      exact W.aret (v := .null) hx hb hr (Or.inl ⟨_, rfl⟩) (Or.inl rfl) (fun t ht hWm => ⟨⟨none, M, rfl, ⟨hres, rfl⟩, xw_end ht hW⟩, hS.F ht⟩) hS.2.2 dX2_windowAt_23
    · have hres : some (a + 5 * i.toNatClampNeg + 4) = xf_win a i := by unfold xf_win; rw [if_neg c_1, if_neg c_2]
      refine lv_aload_n hx hb dX2_windowAt_13 rfl (lv_at hl 0 rfl) ?_
      refine xg_get (κ := 1) (ci := 2) (C := RX2) (T := TX2) (N := 7) hx hb hts inX2 hown hK hW hτ (by decide) rfl rfl 1 (by decide) (hts (.fieldLink RX2 25 "HalfTickets$Ministry" "windows" "[LHalfTickets$Window;") (List.mem_of_getElem? (i := 1) (by decide +kernel))) (fun _ h9 => h9) rfl dX2_windowAt_14 ?_
      refine lv_iload_n hx hb dX2_windowAt_17 rfl (lv_at hl 1 rfl) ?_
      refine xg_aldW (a := a) hx hb hK hW (O.m2 hτ) i.toNatClampNeg (xi_nI c_1) (xi_lt c_1 c_2 (by omega)) dX2_windowAt_18 ?_
      refine lv_goto (tgt := 23) hx hb dX2_windowAt_19 (by decide) ?_
      exact W.aret (v := (.ref (a + 5 * i.toNatClampNeg + 4))) hx hb hr (Or.inl ⟨_, rfl⟩) (Or.inr ⟨_, rfl⟩) (fun t ht hWm => ⟨⟨(some (a + 5 * i.toNatClampNeg + 4)), M, rfl, ⟨hres, rfl⟩, xw_end ht hW⟩, hS.F ht⟩) hS.2.2 dX2_windowAt_23

set_option maxHeartbeats 4000000 in
set_option maxRecDepth 100000 in
/-- Ministry.personAt(i) -/
theorem c_X2_personAt (l : Launch) {G : va_G} {g : Nat → ClassId} {t0 τ : Nat → Nat} {A : Nat → Prop} (O : xk_O τ A) (M : xm_T) (a : Nat) (hτ : τ a = 1) (i : Int32) : Met l yX2_personAt wsX2_personAt ({ frames := 0, cells := 0, slots := 0, locals := 0 }) (va_Pc [.ref a, .int i] (xS_t G g t0 τ A M)) (va_Qq (fun r M' => r = xf_per M a i ∧ M' = M) (fun M' t => xw_D G g τ M' t.heap) A) 0 0 A := by
  refine Met.ofW (cc := cX2_personAt) (maxL := 2) (ret := (some (.object "HalfTickets$Person"))) (by decide) rfl ?_
  intro p e s m args below meth c s₁ B hml hv
  obtain ⟨rfl, hW, hK, hst, hnw⟩ := hv
  have hx := B.exec
  have hb := B.bytes
  have hr := B.returns
  have hts := atoms_spec (ws := wsX2_personAt) B.pre
  have hown : s.vm.findClass RX2 = some m.cls := findClass_of_methodNamed B.named
  have hlocks := B.notSynchronized
  have hS : va_S A s.heap s.heap [] := va_S.rf
  have inX2 : ∀ w ∈ u_ws RX2 TX2 7, w ∈ wsX2_personAt := by decide +kernel
  have hl := lv_entry ([.ref a, .int i]) (n := 2) (Nat.le_of_ble_eq_true rfl)
  rw [lg_entry_eq]
  generalize (lg_sl ([.ref a, .int i]) ++ List.replicate (2 - (lg_sl ([.ref a, .int i])).length) Slot.unset).toArray = ls at hl ⊢
  have hl : lv_has ls 2 [(0, .ref a), (1, .int i)] := hl
  refine lv_iload_n hx hb dX2_personAt_0 rfl (lv_at hl 1 rfl) ?_
  refine lv_if_lt (tgt := 30) hx hb dX2_personAt_1 (by decide) (fun c_1 => ?_) (fun c_1 => ?_)
  · have hres : none = xf_per M a i := by unfold xf_per; rw [if_pos c_1]
    refine lv_null hx hb dX2_personAt_30 ?_
    exact W.aret (v := .null) hx hb hr (Or.inl ⟨_, rfl⟩) (Or.inl rfl) (fun t ht hWm => ⟨⟨none, M, rfl, ⟨hres, rfl⟩, xw_end ht hW⟩, hS.F ht⟩) hS.2.2 dX2_personAt_31
  · refine lv_iload_n hx hb dX2_personAt_4 rfl (lv_at hl 1 rfl) ?_
    refine lv_aload_n hx hb dX2_personAt_5 rfl (lv_at hl 0 rfl) ?_
    refine xg_get (κ := 1) (ci := 2) (C := RX2) (T := TX2) (N := 7) hx hb hts inX2 hown hK hW hτ (by decide) rfl rfl 3 (by decide) (hts (.fieldLink RX2 52 "HalfTickets$Ministry" "people" "I") (List.mem_of_getElem? (i := 1) (by decide +kernel))) (fun _ h9 => h9) rfl dX2_personAt_6 ?_
    refine lv_icmp_ge (tgt := 30) hx hb dX2_personAt_9 (by decide) (fun c_2 => ?_) (fun c_2 => ?_)
    · have hres : none = xf_per M a i := by unfold xf_per; rw [if_neg c_1, if_pos c_2]
      refine lv_null hx hb dX2_personAt_30 ?_
      exact W.aret (v := .null) hx hb hr (Or.inl ⟨_, rfl⟩) (Or.inl rfl) (fun t ht hWm => ⟨⟨none, M, rfl, ⟨hres, rfl⟩, xw_end ht hW⟩, hS.F ht⟩) hS.2.2 dX2_personAt_31
    · refine lv_iload_n hx hb dX2_personAt_12 rfl (lv_at hl 1 rfl) ?_
      refine lv_aload_n hx hb dX2_personAt_13 rfl (lv_at hl 0 rfl) ?_
      refine xg_get (κ := 1) (ci := 2) (C := RX2) (T := TX2) (N := 7) hx hb hts inX2 hown hK hW hτ (by decide) rfl rfl 2 (by decide) (hts (.fieldLink RX2 31 "HalfTickets$Ministry" "persons" "[LHalfTickets$Person;") (List.mem_of_getElem? (i := 2) (by decide +kernel))) (fun _ h9 => h9) rfl dX2_personAt_14 ?_
      refine xg_alen (κ := 4) (v := nI 24) hx hb hK hW (O.m3 hτ) (by decide) rfl 4 rfl rfl dX2_personAt_17 ?_
      refine lv_icmp_ge (tgt := 30) hx hb dX2_personAt_18 (by decide) (fun c_3 => ?_) (fun c_3 => ?_)
      · have hres : none = xf_per M a i := by unfold xf_per; rw [if_neg c_1, if_neg c_2, if_pos c_3]
        refine lv_null hx hb dX2_personAt_30 ?_
        exact W.aret (v := .null) hx hb hr (Or.inl ⟨_, rfl⟩) (Or.inl rfl) (fun t ht hWm => ⟨⟨none, M, rfl, ⟨hres, rfl⟩, xw_end ht hW⟩, hS.F ht⟩) hS.2.2 dX2_personAt_31
      · have hres : some (a + 2 * i.toNatClampNeg + 34) = xf_per M a i := by unfold xf_per; rw [if_neg c_1, if_neg c_2, if_neg c_3]
        refine lv_aload_n hx hb dX2_personAt_21 rfl (lv_at hl 0 rfl) ?_
        refine xg_get (κ := 1) (ci := 2) (C := RX2) (T := TX2) (N := 7) hx hb hts inX2 hown hK hW hτ (by decide) rfl rfl 2 (by decide) (hts (.fieldLink RX2 31 "HalfTickets$Ministry" "persons" "[LHalfTickets$Person;") (List.mem_of_getElem? (i := 2) (by decide +kernel))) (fun _ h9 => h9) rfl dX2_personAt_22 ?_
        refine lv_iload_n hx hb dX2_personAt_25 rfl (lv_at hl 1 rfl) ?_
        refine xg_aldP (a := a) hx hb hK hW (O.m3 hτ) i.toNatClampNeg (xi_nI c_1) (xi_lt c_1 c_3 (by omega)) dX2_personAt_26 ?_
        refine lv_goto (tgt := 31) hx hb dX2_personAt_27 (by decide) ?_
        exact W.aret (v := (.ref (a + 2 * i.toNatClampNeg + 34))) hx hb hr (Or.inl ⟨_, rfl⟩) (Or.inr ⟨_, rfl⟩) (fun t ht hWm => ⟨⟨(some (a + 2 * i.toNatClampNeg + 34)), M, rfl, ⟨hres, rfl⟩, xw_end ht hW⟩, hS.F ht⟩) hS.2.2 dX2_personAt_31

set_option maxHeartbeats 4000000 in
set_option maxRecDepth 100000 in
/-- how many windows are open -/
theorem c_X2_openWindows (l : Launch) {G : va_G} {g : Nat → ClassId} {t0 τ : Nat → Nat} {A : Nat → Prop} (O : xk_O τ A) (M : xm_T) (a : Nat) (hτ : τ a = 1) : Met l yX2_openWindows wsX2_openWindows ({ frames := 0, cells := 0, slots := 0, locals := 0 }) (va_Pc [.ref a] (xS_t G g t0 τ A M)) (va_Qi (fun r M' => r = xf_sum (fun k => if M (a + 5 * k + 4) 0 = 0 then nI 0 else nI 1) 6 ∧ M' = M) (fun M' t => xw_D G g τ M' t.heap) A) 0 0 A := by
  refine Met.ofW (cc := cX2_openWindows) (maxL := 6) (ret := (some .int)) (by decide) rfl ?_
  intro p e s m args below meth c s₁ B hml hv
  obtain ⟨rfl, hW, hK, hst, hnw⟩ := hv
  have hx := B.exec
  have hb := B.bytes
  have hr := B.returns
  have hts := atoms_spec (ws := wsX2_openWindows) B.pre
  have hown : s.vm.findClass RX2 = some m.cls := findClass_of_methodNamed B.named
  have hlocks := B.notSynchronized
  have hS : va_S A s.heap s.heap [] := va_S.rf
  have inX2 : ∀ w ∈ u_ws RX2 TX2 7, w ∈ wsX2_openWindows := by decide +kernel
  have inX5 : ∀ w ∈ u_ws RX5 TX5 7, w ∈ wsX2_openWindows := by decide +kernel
  have hl := lv_entry ([.ref a]) (n := 6) (Nat.le_of_ble_eq_true rfl)
  rw [lg_entry_eq]
  generalize (lg_sl ([.ref a]) ++ List.replicate (6 - (lg_sl ([.ref a])).length) Slot.unset).toArray = ls at hl ⊢
  have hl : lv_has ls 6 [(0, .ref a)] := hl
  refine lv_iconst (v := (nI 0)) hx hb dX2_openWindows_0 (by decide) ?_
  refine lv_istore_n (lv' := [(1, .int (nI 0)), (0, .ref a)]) hx hb dX2_openWindows_1 rfl hl (by decide) rfl (fun ls hl => ?_)
  refine lv_aload_n hx hb dX2_openWindows_2 rfl (lv_at hl 1 rfl) ?_
  refine xg_get (κ := 1) (ci := 2) (C := RX2) (T := TX2) (N := 7) hx hb hts inX2 hown hK hW hτ (by decide) rfl rfl 1 (by decide) (hts (.fieldLink RX2 25 "HalfTickets$Ministry" "windows" "[LHalfTickets$Window;") (List.mem_of_getElem? (i := 1) (by decide +kernel))) (fun _ h9 => h9) rfl dX2_openWindows_3 ?_
  refine lv_astore_n (lv' := [(2, .ref (a + 2)), (1, .int (nI 0)), (0, .ref a)]) hx hb dX2_openWindows_6 rfl hl (by decide) rfl (fun ls hl => ?_)
  refine lv_aload_n hx hb dX2_openWindows_7 rfl (lv_at hl 0 rfl) ?_
  refine xg_alen (κ := 3) (v := nI 6) hx hb hK hW (O.m2 hτ) (by decide) rfl 3 rfl rfl dX2_openWindows_8 ?_
  refine lv_istore_n (lv' := [(3, .int (nI 6)), (2, .ref (a + 2)), (1, .int (nI 0)), (0, .ref a)]) hx hb dX2_openWindows_9 rfl hl (by decide) rfl (fun ls hl => ?_)
  refine lv_iconst (v := (nI 0)) hx hb dX2_openWindows_10 (by decide) ?_
  refine lv_istore (lv' := [(4, .int (nI 0)), (3, .int (nI 6)), (2, .ref (a + 2)), (1, .int (nI 0)), (0, .ref a)]) hx hb dX2_openWindows_11 hl (by decide) rfl (fun ls hl => ?_)
  refine xl_up (σ := Int32) 6 (fun kk zz H locs ls => xw_D G g τ M H ∧ va_S A s.heap H locs ∧ lv_has ls 6 [(4, .int (nI kk)), (3, .int (nI 6)), (2, .ref (a + 2)), (1, .int zz), (0, .ref a)] ∧ zz = xf_sum (fun k => if M (a + 5 * k + 4) 0 = 0 then nI 0 else nI 1) kk) (fun z13 H locs ls hI => ?_) (fun k13 z13 H locs ls hk13 hI ih13 => ?_) (k0 := 0) (z0 := (nI 0)) (Nat.zero_le _) ⟨hW, hS, lv_sub hl [0, 1, 2, 3, 4] rfl, rfl⟩
  · obtain ⟨hW, hS, hl, hE13⟩ := hI
    refine lv_iload hx hb dX2_openWindows_13 (lv_at hl 0 rfl) ?_
    refine lv_iload_n hx hb dX2_openWindows_15 rfl (lv_at hl 1 rfl) ?_
    refine lv_icmp_ge (tgt := 47) hx hb dX2_openWindows_16 (by decide) (fun c_1 => ?_) (fun c_1 => ?_)
    · refine lv_iload_n hx hb dX2_openWindows_47 rfl (lv_at hl 3 rfl) ?_
      exact W.iret (v := z13) hx hb hr (fun t ht hWm => ⟨⟨z13, M, rfl, ⟨hE13, rfl⟩, xw_end ht hW⟩, hS.F ht⟩) hS.2.2 dX2_openWindows_48
    · exact absurd (nI_le (Nat.le_refl _) (by decide)) c_1
  · obtain ⟨hW, hS, hl, hE13⟩ := hI
    refine lv_iload hx hb dX2_openWindows_13 (lv_at hl 0 rfl) ?_
    refine lv_iload_n hx hb dX2_openWindows_15 rfl (lv_at hl 1 rfl) ?_
    refine lv_icmp_ge (tgt := 47) hx hb dX2_openWindows_16 (by decide) (fun c_2 => ?_) (fun c_2 => ?_)
    · exact absurd c_2 (nI_ge hk13 (by decide))
    · refine lv_aload_n hx hb dX2_openWindows_19 rfl (lv_at hl 2 rfl) ?_
      refine lv_iload hx hb dX2_openWindows_20 (lv_at hl 0 rfl) ?_
      refine xg_aldW (a := a) hx hb hK hW (O.m2 hτ) k13 rfl hk13 dX2_openWindows_22 ?_
      refine lv_astore (lv' := [(5, .ref (a + 5 * k13 + 4)), (4, .int (nI k13)), (3, .int (nI 6)), (2, .ref (a + 2)), (1, .int z13), (0, .ref a)]) hx hb dX2_openWindows_23 hl (by decide) rfl (fun ls hl => ?_)
      refine lv_iload_n hx hb dX2_openWindows_25 rfl (lv_at hl 4 rfl) ?_
      refine lv_aload hx hb dX2_openWindows_26 (lv_at hl 0 rfl) ?_
      refine xg_get (κ := 5) (ci := 5) (C := RX5) (T := TX5) (N := 7) hx hb hts inX5 hown hK hW (O.w hτ hk13) (by decide) rfl rfl 0 (by decide) (hts (.fieldLink RX2 65 "HalfTickets$Window" "isOpen" "Z") (List.mem_of_getElem? (i := 2) (by decide +kernel))) (fun _ h9 => h9) rfl dX2_openWindows_28 ?_
      refine lv_if_eq (tgt := 38) hx hb dX2_openWindows_31 (by decide) (fun c_3 => ?_) (fun c_3 => ?_)
      · refine lv_iconst (v := (nI 0)) hx hb dX2_openWindows_38 (by decide) ?_
        refine lv_iadd hx hb dX2_openWindows_39 ?_
        refine lv_istore_n (lv' := [(1, .int (z13 + (nI 0))), (5, .ref (a + 5 * k13 + 4)), (4, .int (nI k13)), (3, .int (nI 6)), (2, .ref (a + 2)), (0, .ref a)]) hx hb dX2_openWindows_40 rfl hl (by decide) rfl (fun ls hl => ?_)
        refine lv_iinc (v := (nI (k13 + 1))) (lv' := [(4, .int (nI (k13 + 1))), (1, .int (z13 + (nI 0))), (5, .ref (a + 5 * k13 + 4)), (3, .int (nI 6)), (2, .ref (a + 2)), (0, .ref a)]) hx hb dX2_openWindows_41 hl (k := 2) rfl ((nI_1 k13)) (by decide) rfl (fun ls hl => ?_)
        refine lv_goto (tgt := 13) hx hb dX2_openWindows_44 (by decide) ?_
        exact ih13 (z13 + (nI 0)) _ _ _ ⟨hW, hS, lv_sub hl [0, 3, 4, 1, 5] rfl, (by rw [hE13]; show _ = xf_sum (fun k => if M (a + 5 * k + 4) 0 = 0 then nI 0 else nI 1) k13 + _; simp only [if_pos c_3])⟩
      · refine lv_iconst (v := (nI 1)) hx hb dX2_openWindows_34 (by decide) ?_
        refine lv_goto (tgt := 39) hx hb dX2_openWindows_35 (by decide) ?_
        refine lv_iadd hx hb dX2_openWindows_39 ?_
        refine lv_istore_n (lv' := [(1, .int (z13 + (nI 1))), (5, .ref (a + 5 * k13 + 4)), (4, .int (nI k13)), (3, .int (nI 6)), (2, .ref (a + 2)), (0, .ref a)]) hx hb dX2_openWindows_40 rfl hl (by decide) rfl (fun ls hl => ?_)
        refine lv_iinc (v := (nI (k13 + 1))) (lv' := [(4, .int (nI (k13 + 1))), (1, .int (z13 + (nI 1))), (5, .ref (a + 5 * k13 + 4)), (3, .int (nI 6)), (2, .ref (a + 2)), (0, .ref a)]) hx hb dX2_openWindows_41 hl (k := 2) rfl ((nI_1 k13)) (by decide) rfl (fun ls hl => ?_)
        refine lv_goto (tgt := 13) hx hb dX2_openWindows_44 (by decide) ?_
        exact ih13 (z13 + (nI 1)) _ _ _ ⟨hW, hS, lv_sub hl [0, 3, 4, 1, 5] rfl, (by rw [hE13]; show _ = xf_sum (fun k => if M (a + 5 * k + 4) 0 = 0 then nI 0 else nI 1) k13 + _; simp only [if_neg c_3])⟩

set_option maxHeartbeats 4000000 in
set_option maxRecDepth 100000 in
/-- how many people are so -/
theorem c_X2_peopleWho (l : Launch) {G : va_G} {g : Nat → ClassId} {t0 τ : Nat → Nat} {A : Nat → Prop} (O : xk_O τ A) (M : xm_T) (a : Nat) (hτ : τ a = 1) (v : Int32) : Met l yX2_peopleWho wsX2_peopleWho ({ frames := 0, cells := 0, slots := 0, locals := 0 }) (va_Pc [.ref a, .int v] (xS_t G g t0 τ A M)) (va_Qi (fun r M' => r = xf_sum (fun k => if M (a + 2 * k + 34) 3 = v then nI 1 else nI 0) 24 ∧ M' = M) (fun M' t => xw_D G g τ M' t.heap) A) 0 0 A := by
  refine Met.ofW (cc := cX2_peopleWho) (maxL := 7) (ret := (some .int)) (by decide) rfl ?_
  intro p e s m args below meth c s₁ B hml hv
  obtain ⟨rfl, hW, hK, hst, hnw⟩ := hv
  have hx := B.exec
  have hb := B.bytes
  have hr := B.returns
  have hts := atoms_spec (ws := wsX2_peopleWho) B.pre
  have hown : s.vm.findClass RX2 = some m.cls := findClass_of_methodNamed B.named
  have hlocks := B.notSynchronized
  have hS : va_S A s.heap s.heap [] := va_S.rf
  have inX2 : ∀ w ∈ u_ws RX2 TX2 7, w ∈ wsX2_peopleWho := by decide +kernel
  have inX4 : ∀ w ∈ u_ws RX4 TX4 12, w ∈ wsX2_peopleWho := by decide +kernel
  have hl := lv_entry ([.ref a, .int v]) (n := 7) (Nat.le_of_ble_eq_true rfl)
  rw [lg_entry_eq]
  generalize (lg_sl ([.ref a, .int v]) ++ List.replicate (7 - (lg_sl ([.ref a, .int v])).length) Slot.unset).toArray = ls at hl ⊢
  have hl : lv_has ls 7 [(0, .ref a), (1, .int v)] := hl
  refine lv_iconst (v := (nI 0)) hx hb dX2_peopleWho_0 (by decide) ?_
  refine lv_istore_n (lv' := [(2, .int (nI 0)), (0, .ref a), (1, .int v)]) hx hb dX2_peopleWho_1 rfl hl (by decide) rfl (fun ls hl => ?_)
  refine lv_aload_n hx hb dX2_peopleWho_2 rfl (lv_at hl 1 rfl) ?_
  refine xg_get (κ := 1) (ci := 2) (C := RX2) (T := TX2) (N := 7) hx hb hts inX2 hown hK hW hτ (by decide) rfl rfl 2 (by decide) (hts (.fieldLink RX2 31 "HalfTickets$Ministry" "persons" "[LHalfTickets$Person;") (List.mem_of_getElem? (i := 1) (by decide +kernel))) (fun _ h9 => h9) rfl dX2_peopleWho_3 ?_
  refine lv_astore_n (lv' := [(3, .ref (a + 3)), (2, .int (nI 0)), (0, .ref a), (1, .int v)]) hx hb dX2_peopleWho_6 rfl hl (by decide) rfl (fun ls hl => ?_)
  refine lv_aload_n hx hb dX2_peopleWho_7 rfl (lv_at hl 0 rfl) ?_
  refine xg_alen (κ := 4) (v := nI 24) hx hb hK hW (O.m3 hτ) (by decide) rfl 4 rfl rfl dX2_peopleWho_8 ?_
  refine lv_istore (lv' := [(4, .int (nI 24)), (3, .ref (a + 3)), (2, .int (nI 0)), (0, .ref a), (1, .int v)]) hx hb dX2_peopleWho_9 hl (by decide) rfl (fun ls hl => ?_)
  refine lv_iconst (v := (nI 0)) hx hb dX2_peopleWho_11 (by decide) ?_
  refine lv_istore (lv' := [(5, .int (nI 0)), (4, .int (nI 24)), (3, .ref (a + 3)), (2, .int (nI 0)), (0, .ref a), (1, .int v)]) hx hb dX2_peopleWho_12 hl (by decide) rfl (fun ls hl => ?_)
  refine xl_up (σ := Int32) 24 (fun kk zz H locs ls => xw_D G g τ M H ∧ va_S A s.heap H locs ∧ lv_has ls 7 [(5, .int (nI kk)), (4, .int (nI 24)), (3, .ref (a + 3)), (2, .int zz), (0, .ref a), (1, .int v)] ∧ zz = xf_sum (fun k => if M (a + 2 * k + 34) 3 = v then nI 1 else nI 0) kk) (fun z14 H locs ls hI => ?_) (fun k14 z14 H locs ls hk14 hI ih14 => ?_) (k0 := 0) (z0 := (nI 0)) (Nat.zero_le _) ⟨hW, hS, lv_sub hl [0, 1, 2, 3, 4, 5] rfl, rfl⟩
  · obtain ⟨hW, hS, hl, hE14⟩ := hI
    refine lv_iload hx hb dX2_peopleWho_14 (lv_at hl 0 rfl) ?_
    refine lv_iload hx hb dX2_peopleWho_16 (lv_at hl 1 rfl) ?_
    refine lv_icmp_ge (tgt := 50) hx hb dX2_peopleWho_18 (by decide) (fun c_1 => ?_) (fun c_1 => ?_)
    · refine lv_iload_n hx hb dX2_peopleWho_50 rfl (lv_at hl 3 rfl) ?_
      exact W.iret (v := z14) hx hb hr (fun t ht hWm => ⟨⟨z14, M, rfl, ⟨hE14, rfl⟩, xw_end ht hW⟩, hS.F ht⟩) hS.2.2 dX2_peopleWho_51
    · exact absurd (nI_le (Nat.le_refl _) (by decide)) c_1
  · obtain ⟨hW, hS, hl, hE14⟩ := hI
    refine lv_iload hx hb dX2_peopleWho_14 (lv_at hl 0 rfl) ?_
    refine lv_iload hx hb dX2_peopleWho_16 (lv_at hl 1 rfl) ?_
    refine lv_icmp_ge (tgt := 50) hx hb dX2_peopleWho_18 (by decide) (fun c_2 => ?_) (fun c_2 => ?_)
    · exact absurd c_2 (nI_ge hk14 (by decide))
    · refine lv_aload_n hx hb dX2_peopleWho_21 rfl (lv_at hl 2 rfl) ?_
      refine lv_iload hx hb dX2_peopleWho_22 (lv_at hl 0 rfl) ?_
      refine xg_aldP (a := a) hx hb hK hW (O.m3 hτ) k14 rfl hk14 dX2_peopleWho_24 ?_
      refine lv_astore (lv' := [(6, .ref (a + 2 * k14 + 34)), (5, .int (nI k14)), (4, .int (nI 24)), (3, .ref (a + 3)), (2, .int z14), (0, .ref a), (1, .int v)]) hx hb dX2_peopleWho_25 hl (by decide) rfl (fun ls hl => ?_)
      refine lv_iload_n hx hb dX2_peopleWho_27 rfl (lv_at hl 4 rfl) ?_
      refine lv_aload hx hb dX2_peopleWho_28 (lv_at hl 0 rfl) ?_
      refine xg_get (κ := 8) (ci := 4) (C := RX4) (T := TX4) (N := 12) hx hb hts inX4 hown hK hW (O.p hτ hk14) (by decide) rfl rfl 3 (by decide) (hts (.fieldLink RX2 69 "HalfTickets$Person" "where" "I") (List.mem_of_getElem? (i := 2) (by decide +kernel))) (fun _ h9 => h9) rfl dX2_peopleWho_30 ?_
      refine lv_iload_n hx hb dX2_peopleWho_33 rfl (lv_at hl 6 rfl) ?_
      refine lv_icmp_ne (tgt := 41) hx hb dX2_peopleWho_34 (by decide) (fun c_3 => ?_) (fun c_3 => ?_)
      · refine lv_iconst (v := (nI 0)) hx hb dX2_peopleWho_41 (by decide) ?_
        refine lv_iadd hx hb dX2_peopleWho_42 ?_
        refine lv_istore_n (lv' := [(2, .int (z14 + (nI 0))), (6, .ref (a + 2 * k14 + 34)), (5, .int (nI k14)), (4, .int (nI 24)), (3, .ref (a + 3)), (0, .ref a), (1, .int v)]) hx hb dX2_peopleWho_43 rfl hl (by decide) rfl (fun ls hl => ?_)
        refine lv_iinc (v := (nI (k14 + 1))) (lv' := [(5, .int (nI (k14 + 1))), (2, .int (z14 + (nI 0))), (6, .ref (a + 2 * k14 + 34)), (4, .int (nI 24)), (3, .ref (a + 3)), (0, .ref a), (1, .int v)]) hx hb dX2_peopleWho_44 hl (k := 2) rfl ((nI_1 k14)) (by decide) rfl (fun ls hl => ?_)
        refine lv_goto (tgt := 14) hx hb dX2_peopleWho_47 (by decide) ?_
        exact ih14 (z14 + (nI 0)) _ _ _ ⟨hW, hS, lv_sub hl [0, 3, 4, 1, 5, 6] rfl, (by rw [hE14]; show _ = xf_sum (fun k => if M (a + 2 * k + 34) 3 = v then nI 1 else nI 0) k14 + _; simp only [if_neg c_3])⟩
      · refine lv_iconst (v := (nI 1)) hx hb dX2_peopleWho_37 (by decide) ?_
        refine lv_goto (tgt := 42) hx hb dX2_peopleWho_38 (by decide) ?_
        refine lv_iadd hx hb dX2_peopleWho_42 ?_
        refine lv_istore_n (lv' := [(2, .int (z14 + (nI 1))), (6, .ref (a + 2 * k14 + 34)), (5, .int (nI k14)), (4, .int (nI 24)), (3, .ref (a + 3)), (0, .ref a), (1, .int v)]) hx hb dX2_peopleWho_43 rfl hl (by decide) rfl (fun ls hl => ?_)
        refine lv_iinc (v := (nI (k14 + 1))) (lv' := [(5, .int (nI (k14 + 1))), (2, .int (z14 + (nI 1))), (6, .ref (a + 2 * k14 + 34)), (4, .int (nI 24)), (3, .ref (a + 3)), (0, .ref a), (1, .int v)]) hx hb dX2_peopleWho_44 hl (k := 2) rfl ((nI_1 k14)) (by decide) rfl (fun ls hl => ?_)
        refine lv_goto (tgt := 14) hx hb dX2_peopleWho_47 (by decide) ?_
        exact ih14 (z14 + (nI 1)) _ _ _ ⟨hW, hS, lv_sub hl [0, 3, 4, 1, 5, 6] rfl, (by rw [hE14]; show _ = xf_sum (fun k => if M (a + 2 * k + 34) 3 = v then nI 1 else nI 0) k14 + _; simp only [if_pos c_3])⟩

set_option maxHeartbeats 4000000 in
set_option maxRecDepth 100000 in
/-- halves of all windows -/
theorem c_X2_halvesOfWindows (l : Launch) {G : va_G} {g : Nat → ClassId} {t0 τ : Nat → Nat} {A : Nat → Prop} (O : xk_O τ A) (M : xm_T) (a : Nat) (hτ : τ a = 1) : Met l yX2_halvesOfWindows wsX2_halvesOfWindows ({ frames := 0, cells := 0, slots := 0, locals := 0 }) (va_Pc [.ref a] (xS_t G g t0 τ A M)) (va_Qi (fun r M' => r = xf_sum (fun k => M (a + 5 * k + 4) 2) 6 ∧ M' = M) (fun M' t => xw_D G g τ M' t.heap) A) 0 0 A := by
  refine Met.ofW (cc := cX2_halvesOfWindows) (maxL := 6) (ret := (some .int)) (by decide) rfl ?_
  intro p e s m args below meth c s₁ B hml hv
  obtain ⟨rfl, hW, hK, hst, hnw⟩ := hv
  have hx := B.exec
  have hb := B.bytes
  have hr := B.returns
  have hts := atoms_spec (ws := wsX2_halvesOfWindows) B.pre
  have hown : s.vm.findClass RX2 = some m.cls := findClass_of_methodNamed B.named
  have hlocks := B.notSynchronized
  have hS : va_S A s.heap s.heap [] := va_S.rf
  have inX2 : ∀ w ∈ u_ws RX2 TX2 7, w ∈ wsX2_halvesOfWindows := by decide +kernel
  have inX5 : ∀ w ∈ u_ws RX5 TX5 7, w ∈ wsX2_halvesOfWindows := by decide +kernel
  have hl := lv_entry ([.ref a]) (n := 6) (Nat.le_of_ble_eq_true rfl)
  rw [lg_entry_eq]
  generalize (lg_sl ([.ref a]) ++ List.replicate (6 - (lg_sl ([.ref a])).length) Slot.unset).toArray = ls at hl ⊢
  have hl : lv_has ls 6 [(0, .ref a)] := hl
  refine lv_iconst (v := (nI 0)) hx hb dX2_halvesOfWindows_0 (by decide) ?_
  refine lv_istore_n (lv' := [(1, .int (nI 0)), (0, .ref a)]) hx hb dX2_halvesOfWindows_1 rfl hl (by decide) rfl (fun ls hl => ?_)
  refine lv_aload_n hx hb dX2_halvesOfWindows_2 rfl (lv_at hl 1 rfl) ?_
  refine xg_get (κ := 1) (ci := 2) (C := RX2) (T := TX2) (N := 7) hx hb hts inX2 hown hK hW hτ (by decide) rfl rfl 1 (by decide) (hts (.fieldLink RX2 25 "HalfTickets$Ministry" "windows" "[LHalfTickets$Window;") (List.mem_of_getElem? (i := 1) (by decide +kernel))) (fun _ h9 => h9) rfl dX2_halvesOfWindows_3 ?_
  refine lv_astore_n (lv' := [(2, .ref (a + 2)), (1, .int (nI 0)), (0, .ref a)]) hx hb dX2_halvesOfWindows_6 rfl hl (by decide) rfl (fun ls hl => ?_)
  refine lv_aload_n hx hb dX2_halvesOfWindows_7 rfl (lv_at hl 0 rfl) ?_
  refine xg_alen (κ := 3) (v := nI 6) hx hb hK hW (O.m2 hτ) (by decide) rfl 3 rfl rfl dX2_halvesOfWindows_8 ?_
  refine lv_istore_n (lv' := [(3, .int (nI 6)), (2, .ref (a + 2)), (1, .int (nI 0)), (0, .ref a)]) hx hb dX2_halvesOfWindows_9 rfl hl (by decide) rfl (fun ls hl => ?_)
  refine lv_iconst (v := (nI 0)) hx hb dX2_halvesOfWindows_10 (by decide) ?_
  refine lv_istore (lv' := [(4, .int (nI 0)), (3, .int (nI 6)), (2, .ref (a + 2)), (1, .int (nI 0)), (0, .ref a)]) hx hb dX2_halvesOfWindows_11 hl (by decide) rfl (fun ls hl => ?_)
  refine xl_up (σ := Int32) 6 (fun kk zz H locs ls => xw_D G g τ M H ∧ va_S A s.heap H locs ∧ lv_has ls 6 [(4, .int (nI kk)), (3, .int (nI 6)), (2, .ref (a + 2)), (1, .int zz), (0, .ref a)] ∧ zz = xf_sum (fun k => M (a + 5 * k + 4) 2) kk) (fun z13 H locs ls hI => ?_) (fun k13 z13 H locs ls hk13 hI ih13 => ?_) (k0 := 0) (z0 := (nI 0)) (Nat.zero_le _) ⟨hW, hS, lv_sub hl [0, 1, 2, 3, 4] rfl, rfl⟩
  · obtain ⟨hW, hS, hl, hE13⟩ := hI
    refine lv_iload hx hb dX2_halvesOfWindows_13 (lv_at hl 0 rfl) ?_
    refine lv_iload_n hx hb dX2_halvesOfWindows_15 rfl (lv_at hl 1 rfl) ?_
    refine lv_icmp_ge (tgt := 39) hx hb dX2_halvesOfWindows_16 (by decide) (fun c_1 => ?_) (fun c_1 => ?_)
    · refine lv_iload_n hx hb dX2_halvesOfWindows_39 rfl (lv_at hl 3 rfl) ?_
      exact W.iret (v := z13) hx hb hr (fun t ht hWm => ⟨⟨z13, M, rfl, ⟨hE13, rfl⟩, xw_end ht hW⟩, hS.F ht⟩) hS.2.2 dX2_halvesOfWindows_40
    · exact absurd (nI_le (Nat.le_refl _) (by decide)) c_1
  · obtain ⟨hW, hS, hl, hE13⟩ := hI
    refine lv_iload hx hb dX2_halvesOfWindows_13 (lv_at hl 0 rfl) ?_
    refine lv_iload_n hx hb dX2_halvesOfWindows_15 rfl (lv_at hl 1 rfl) ?_
    refine lv_icmp_ge (tgt := 39) hx hb dX2_halvesOfWindows_16 (by decide) (fun c_2 => ?_) (fun c_2 => ?_)
    · exact absurd c_2 (nI_ge hk13 (by decide))
    · refine lv_aload_n hx hb dX2_halvesOfWindows_19 rfl (lv_at hl 2 rfl) ?_
      refine lv_iload hx hb dX2_halvesOfWindows_20 (lv_at hl 0 rfl) ?_
      refine xg_aldW (a := a) hx hb hK hW (O.m2 hτ) k13 rfl hk13 dX2_halvesOfWindows_22 ?_
      refine lv_astore (lv' := [(5, .ref (a + 5 * k13 + 4)), (4, .int (nI k13)), (3, .int (nI 6)), (2, .ref (a + 2)), (1, .int z13), (0, .ref a)]) hx hb dX2_halvesOfWindows_23 hl (by decide) rfl (fun ls hl => ?_)
      refine lv_iload_n hx hb dX2_halvesOfWindows_25 rfl (lv_at hl 4 rfl) ?_
      refine lv_aload hx hb dX2_halvesOfWindows_26 (lv_at hl 0 rfl) ?_
      refine xg_get (κ := 5) (ci := 5) (C := RX5) (T := TX5) (N := 7) hx hb hts inX5 hown hK hW (O.w hτ hk13) (by decide) rfl rfl 2 (by decide) (hts (.fieldLink RX2 72 "HalfTickets$Window" "halves" "I") (List.mem_of_getElem? (i := 2) (by decide +kernel))) (fun _ h9 => h9) rfl dX2_halvesOfWindows_28 ?_
      refine lv_iadd hx hb dX2_halvesOfWindows_31 ?_
      refine lv_istore_n (lv' := [(1, .int (z13 + (M (a + 5 * k13 + 4) 2))), (5, .ref (a + 5 * k13 + 4)), (4, .int (nI k13)), (3, .int (nI 6)), (2, .ref (a + 2)), (0, .ref a)]) hx hb dX2_halvesOfWindows_32 rfl hl (by decide) rfl (fun ls hl => ?_)
      refine lv_iinc (v := (nI (k13 + 1))) (lv' := [(4, .int (nI (k13 + 1))), (1, .int (z13 + (M (a + 5 * k13 + 4) 2))), (5, .ref (a + 5 * k13 + 4)), (3, .int (nI 6)), (2, .ref (a + 2)), (0, .ref a)]) hx hb dX2_halvesOfWindows_33 hl (k := 2) rfl ((nI_1 k13)) (by decide) rfl (fun ls hl => ?_)
      refine lv_goto (tgt := 13) hx hb dX2_halvesOfWindows_36 (by decide) ?_
      exact ih13 (z13 + (M (a + 5 * k13 + 4) 2)) _ _ _ ⟨hW, hS, lv_sub hl [0, 3, 4, 1, 5] rfl, (by rw [hE13]; rfl)⟩

set_option maxHeartbeats 4000000 in
set_option maxRecDepth 100000 in
/-- halves of all people -/
theorem c_X2_halvesOfPeople (l : Launch) {G : va_G} {g : Nat → ClassId} {t0 τ : Nat → Nat} {A : Nat → Prop} (O : xk_O τ A) (M : xm_T) (a : Nat) (hτ : τ a = 1) : Met l yX2_halvesOfPeople wsX2_halvesOfPeople ({ frames := 0, cells := 0, slots := 0, locals := 0 }) (va_Pc [.ref a] (xS_t G g t0 τ A M)) (va_Qi (fun r M' => r = xf_sum (fun k => if M (a + 2 * k + 34) 5 = 0 then nI 0 else nI 1) 24 ∧ M' = M) (fun M' t => xw_D G g τ M' t.heap) A) 0 0 A := by
  refine Met.ofW (cc := cX2_halvesOfPeople) (maxL := 6) (ret := (some .int)) (by decide) rfl ?_
  intro p e s m args below meth c s₁ B hml hv
  obtain ⟨rfl, hW, hK, hst, hnw⟩ := hv
  have hx := B.exec
  have hb := B.bytes
  have hr := B.returns
  have hts := atoms_spec (ws := wsX2_halvesOfPeople) B.pre
  have hown : s.vm.findClass RX2 = some m.cls := findClass_of_methodNamed B.named
  have hlocks := B.notSynchronized
  have hS : va_S A s.heap s.heap [] := va_S.rf
  have inX2 : ∀ w ∈ u_ws RX2 TX2 7, w ∈ wsX2_halvesOfPeople := by decide +kernel
  have inX4 : ∀ w ∈ u_ws RX4 TX4 12, w ∈ wsX2_halvesOfPeople := by decide +kernel
  have hl := lv_entry ([.ref a]) (n := 6) (Nat.le_of_ble_eq_true rfl)
  rw [lg_entry_eq]
  generalize (lg_sl ([.ref a]) ++ List.replicate (6 - (lg_sl ([.ref a])).length) Slot.unset).toArray = ls at hl ⊢
  have hl : lv_has ls 6 [(0, .ref a)] := hl
  refine lv_iconst (v := (nI 0)) hx hb dX2_halvesOfPeople_0 (by decide) ?_
  refine lv_istore_n (lv' := [(1, .int (nI 0)), (0, .ref a)]) hx hb dX2_halvesOfPeople_1 rfl hl (by decide) rfl (fun ls hl => ?_)
  refine lv_aload_n hx hb dX2_halvesOfPeople_2 rfl (lv_at hl 1 rfl) ?_
  refine xg_get (κ := 1) (ci := 2) (C := RX2) (T := TX2) (N := 7) hx hb hts inX2 hown hK hW hτ (by decide) rfl rfl 2 (by decide) (hts (.fieldLink RX2 31 "HalfTickets$Ministry" "persons" "[LHalfTickets$Person;") (List.mem_of_getElem? (i := 1) (by decide +kernel))) (fun _ h9 => h9) rfl dX2_halvesOfPeople_3 ?_
  refine lv_astore_n (lv' := [(2, .ref (a + 3)), (1, .int (nI 0)), (0, .ref a)]) hx hb dX2_halvesOfPeople_6 rfl hl (by decide) rfl (fun ls hl => ?_)
  refine lv_aload_n hx hb dX2_halvesOfPeople_7 rfl (lv_at hl 0 rfl) ?_
  refine xg_alen (κ := 4) (v := nI 24) hx hb hK hW (O.m3 hτ) (by decide) rfl 4 rfl rfl dX2_halvesOfPeople_8 ?_
  refine lv_istore_n (lv' := [(3, .int (nI 24)), (2, .ref (a + 3)), (1, .int (nI 0)), (0, .ref a)]) hx hb dX2_halvesOfPeople_9 rfl hl (by decide) rfl (fun ls hl => ?_)
  refine lv_iconst (v := (nI 0)) hx hb dX2_halvesOfPeople_10 (by decide) ?_
  refine lv_istore (lv' := [(4, .int (nI 0)), (3, .int (nI 24)), (2, .ref (a + 3)), (1, .int (nI 0)), (0, .ref a)]) hx hb dX2_halvesOfPeople_11 hl (by decide) rfl (fun ls hl => ?_)
  refine xl_up (σ := Int32) 24 (fun kk zz H locs ls => xw_D G g τ M H ∧ va_S A s.heap H locs ∧ lv_has ls 6 [(4, .int (nI kk)), (3, .int (nI 24)), (2, .ref (a + 3)), (1, .int zz), (0, .ref a)] ∧ zz = xf_sum (fun k => if M (a + 2 * k + 34) 5 = 0 then nI 0 else nI 1) kk) (fun z13 H locs ls hI => ?_) (fun k13 z13 H locs ls hk13 hI ih13 => ?_) (k0 := 0) (z0 := (nI 0)) (Nat.zero_le _) ⟨hW, hS, lv_sub hl [0, 1, 2, 3, 4] rfl, rfl⟩
  · obtain ⟨hW, hS, hl, hE13⟩ := hI
    refine lv_iload hx hb dX2_halvesOfPeople_13 (lv_at hl 0 rfl) ?_
    refine lv_iload_n hx hb dX2_halvesOfPeople_15 rfl (lv_at hl 1 rfl) ?_
    refine lv_icmp_ge (tgt := 47) hx hb dX2_halvesOfPeople_16 (by decide) (fun c_1 => ?_) (fun c_1 => ?_)
    · refine lv_iload_n hx hb dX2_halvesOfPeople_47 rfl (lv_at hl 3 rfl) ?_
      exact W.iret (v := z13) hx hb hr (fun t ht hWm => ⟨⟨z13, M, rfl, ⟨hE13, rfl⟩, xw_end ht hW⟩, hS.F ht⟩) hS.2.2 dX2_halvesOfPeople_48
    · exact absurd (nI_le (Nat.le_refl _) (by decide)) c_1
  · obtain ⟨hW, hS, hl, hE13⟩ := hI
    refine lv_iload hx hb dX2_halvesOfPeople_13 (lv_at hl 0 rfl) ?_
    refine lv_iload_n hx hb dX2_halvesOfPeople_15 rfl (lv_at hl 1 rfl) ?_
    refine lv_icmp_ge (tgt := 47) hx hb dX2_halvesOfPeople_16 (by decide) (fun c_2 => ?_) (fun c_2 => ?_)
    · exact absurd c_2 (nI_ge hk13 (by decide))
    · refine lv_aload_n hx hb dX2_halvesOfPeople_19 rfl (lv_at hl 2 rfl) ?_
      refine lv_iload hx hb dX2_halvesOfPeople_20 (lv_at hl 0 rfl) ?_
      refine xg_aldP (a := a) hx hb hK hW (O.m3 hτ) k13 rfl hk13 dX2_halvesOfPeople_22 ?_
      refine lv_astore (lv' := [(5, .ref (a + 2 * k13 + 34)), (4, .int (nI k13)), (3, .int (nI 24)), (2, .ref (a + 3)), (1, .int z13), (0, .ref a)]) hx hb dX2_halvesOfPeople_23 hl (by decide) rfl (fun ls hl => ?_)
      refine lv_iload_n hx hb dX2_halvesOfPeople_25 rfl (lv_at hl 4 rfl) ?_
      refine lv_aload hx hb dX2_halvesOfPeople_26 (lv_at hl 0 rfl) ?_
      refine xg_get (κ := 8) (ci := 4) (C := RX4) (T := TX4) (N := 12) hx hb hts inX4 hown hK hW (O.p hτ hk13) (by decide) rfl rfl 5 (by decide) (hts (.fieldLink RX2 75 "HalfTickets$Person" "hasHalf" "Z") (List.mem_of_getElem? (i := 2) (by decide +kernel))) (fun _ h9 => h9) rfl dX2_halvesOfPeople_28 ?_
      refine lv_if_eq (tgt := 38) hx hb dX2_halvesOfPeople_31 (by decide) (fun c_3 => ?_) (fun c_3 => ?_)
      · refine lv_iconst (v := (nI 0)) hx hb dX2_halvesOfPeople_38 (by decide) ?_
        refine lv_iadd hx hb dX2_halvesOfPeople_39 ?_
        refine lv_istore_n (lv' := [(1, .int (z13 + (nI 0))), (5, .ref (a + 2 * k13 + 34)), (4, .int (nI k13)), (3, .int (nI 24)), (2, .ref (a + 3)), (0, .ref a)]) hx hb dX2_halvesOfPeople_40 rfl hl (by decide) rfl (fun ls hl => ?_)
        refine lv_iinc (v := (nI (k13 + 1))) (lv' := [(4, .int (nI (k13 + 1))), (1, .int (z13 + (nI 0))), (5, .ref (a + 2 * k13 + 34)), (3, .int (nI 24)), (2, .ref (a + 3)), (0, .ref a)]) hx hb dX2_halvesOfPeople_41 hl (k := 2) rfl ((nI_1 k13)) (by decide) rfl (fun ls hl => ?_)
        refine lv_goto (tgt := 13) hx hb dX2_halvesOfPeople_44 (by decide) ?_
        exact ih13 (z13 + (nI 0)) _ _ _ ⟨hW, hS, lv_sub hl [0, 3, 4, 1, 5] rfl, (by rw [hE13]; show _ = xf_sum (fun k => if M (a + 2 * k + 34) 5 = 0 then nI 0 else nI 1) k13 + _; simp only [if_pos c_3])⟩
      · refine lv_iconst (v := (nI 1)) hx hb dX2_halvesOfPeople_34 (by decide) ?_
        refine lv_goto (tgt := 39) hx hb dX2_halvesOfPeople_35 (by decide) ?_
        refine lv_iadd hx hb dX2_halvesOfPeople_39 ?_
        refine lv_istore_n (lv' := [(1, .int (z13 + (nI 1))), (5, .ref (a + 2 * k13 + 34)), (4, .int (nI k13)), (3, .int (nI 24)), (2, .ref (a + 3)), (0, .ref a)]) hx hb dX2_halvesOfPeople_40 rfl hl (by decide) rfl (fun ls hl => ?_)
        refine lv_iinc (v := (nI (k13 + 1))) (lv' := [(4, .int (nI (k13 + 1))), (1, .int (z13 + (nI 1))), (5, .ref (a + 2 * k13 + 34)), (3, .int (nI 24)), (2, .ref (a + 3)), (0, .ref a)]) hx hb dX2_halvesOfPeople_41 hl (k := 2) rfl ((nI_1 k13)) (by decide) rfl (fun ls hl => ?_)
        refine lv_goto (tgt := 13) hx hb dX2_halvesOfPeople_44 (by decide) ?_
        exact ih13 (z13 + (nI 1)) _ _ _ ⟨hW, hS, lv_sub hl [0, 3, 4, 1, 5] rfl, (by rw [hE13]; show _ = xf_sum (fun k => if M (a + 2 * k + 34) 5 = 0 then nI 0 else nI 1) k13 + _; simp only [if_neg c_3])⟩

set_option maxHeartbeats 4000000 in
set_option maxRecDepth 100000 in
/-- waits of all people -/
theorem c_X2_waits (l : Launch) {G : va_G} {g : Nat → ClassId} {t0 τ : Nat → Nat} {A : Nat → Prop} (O : xk_O τ A) (M : xm_T) (a : Nat) (hτ : τ a = 1) : Met l yX2_waits wsX2_waits ({ frames := 0, cells := 0, slots := 0, locals := 0 }) (va_Pc [.ref a] (xS_t G g t0 τ A M)) (va_Qi (fun r M' => r = xf_sum (fun k => M (a + 2 * k + 34) 7) 24 ∧ M' = M) (fun M' t => xw_D G g τ M' t.heap) A) 0 0 A := by
  refine Met.ofW (cc := cX2_waits) (maxL := 6) (ret := (some .int)) (by decide) rfl ?_
  intro p e s m args below meth c s₁ B hml hv
  obtain ⟨rfl, hW, hK, hst, hnw⟩ := hv
  have hx := B.exec
  have hb := B.bytes
  have hr := B.returns
  have hts := atoms_spec (ws := wsX2_waits) B.pre
  have hown : s.vm.findClass RX2 = some m.cls := findClass_of_methodNamed B.named
  have hlocks := B.notSynchronized
  have hS : va_S A s.heap s.heap [] := va_S.rf
  have inX2 : ∀ w ∈ u_ws RX2 TX2 7, w ∈ wsX2_waits := by decide +kernel
  have inX4 : ∀ w ∈ u_ws RX4 TX4 12, w ∈ wsX2_waits := by decide +kernel
  have hl := lv_entry ([.ref a]) (n := 6) (Nat.le_of_ble_eq_true rfl)
  rw [lg_entry_eq]
  generalize (lg_sl ([.ref a]) ++ List.replicate (6 - (lg_sl ([.ref a])).length) Slot.unset).toArray = ls at hl ⊢
  have hl : lv_has ls 6 [(0, .ref a)] := hl
  refine lv_iconst (v := (nI 0)) hx hb dX2_waits_0 (by decide) ?_
  refine lv_istore_n (lv' := [(1, .int (nI 0)), (0, .ref a)]) hx hb dX2_waits_1 rfl hl (by decide) rfl (fun ls hl => ?_)
  refine lv_aload_n hx hb dX2_waits_2 rfl (lv_at hl 1 rfl) ?_
  refine xg_get (κ := 1) (ci := 2) (C := RX2) (T := TX2) (N := 7) hx hb hts inX2 hown hK hW hτ (by decide) rfl rfl 2 (by decide) (hts (.fieldLink RX2 31 "HalfTickets$Ministry" "persons" "[LHalfTickets$Person;") (List.mem_of_getElem? (i := 1) (by decide +kernel))) (fun _ h9 => h9) rfl dX2_waits_3 ?_
  refine lv_astore_n (lv' := [(2, .ref (a + 3)), (1, .int (nI 0)), (0, .ref a)]) hx hb dX2_waits_6 rfl hl (by decide) rfl (fun ls hl => ?_)
  refine lv_aload_n hx hb dX2_waits_7 rfl (lv_at hl 0 rfl) ?_
  refine xg_alen (κ := 4) (v := nI 24) hx hb hK hW (O.m3 hτ) (by decide) rfl 4 rfl rfl dX2_waits_8 ?_
  refine lv_istore_n (lv' := [(3, .int (nI 24)), (2, .ref (a + 3)), (1, .int (nI 0)), (0, .ref a)]) hx hb dX2_waits_9 rfl hl (by decide) rfl (fun ls hl => ?_)
  refine lv_iconst (v := (nI 0)) hx hb dX2_waits_10 (by decide) ?_
  refine lv_istore (lv' := [(4, .int (nI 0)), (3, .int (nI 24)), (2, .ref (a + 3)), (1, .int (nI 0)), (0, .ref a)]) hx hb dX2_waits_11 hl (by decide) rfl (fun ls hl => ?_)
  refine xl_up (σ := Int32) 24 (fun kk zz H locs ls => xw_D G g τ M H ∧ va_S A s.heap H locs ∧ lv_has ls 6 [(4, .int (nI kk)), (3, .int (nI 24)), (2, .ref (a + 3)), (1, .int zz), (0, .ref a)] ∧ zz = xf_sum (fun k => M (a + 2 * k + 34) 7) kk) (fun z13 H locs ls hI => ?_) (fun k13 z13 H locs ls hk13 hI ih13 => ?_) (k0 := 0) (z0 := (nI 0)) (Nat.zero_le _) ⟨hW, hS, lv_sub hl [0, 1, 2, 3, 4] rfl, rfl⟩
  · obtain ⟨hW, hS, hl, hE13⟩ := hI
    refine lv_iload hx hb dX2_waits_13 (lv_at hl 0 rfl) ?_
    refine lv_iload_n hx hb dX2_waits_15 rfl (lv_at hl 1 rfl) ?_
    refine lv_icmp_ge (tgt := 39) hx hb dX2_waits_16 (by decide) (fun c_1 => ?_) (fun c_1 => ?_)
    · refine lv_iload_n hx hb dX2_waits_39 rfl (lv_at hl 3 rfl) ?_
      exact W.iret (v := z13) hx hb hr (fun t ht hWm => ⟨⟨z13, M, rfl, ⟨hE13, rfl⟩, xw_end ht hW⟩, hS.F ht⟩) hS.2.2 dX2_waits_40
    · exact absurd (nI_le (Nat.le_refl _) (by decide)) c_1
  · obtain ⟨hW, hS, hl, hE13⟩ := hI
    refine lv_iload hx hb dX2_waits_13 (lv_at hl 0 rfl) ?_
    refine lv_iload_n hx hb dX2_waits_15 rfl (lv_at hl 1 rfl) ?_
    refine lv_icmp_ge (tgt := 39) hx hb dX2_waits_16 (by decide) (fun c_2 => ?_) (fun c_2 => ?_)
    · exact absurd c_2 (nI_ge hk13 (by decide))
    · refine lv_aload_n hx hb dX2_waits_19 rfl (lv_at hl 2 rfl) ?_
      refine lv_iload hx hb dX2_waits_20 (lv_at hl 0 rfl) ?_
      refine xg_aldP (a := a) hx hb hK hW (O.m3 hτ) k13 rfl hk13 dX2_waits_22 ?_
      refine lv_astore (lv' := [(5, .ref (a + 2 * k13 + 34)), (4, .int (nI k13)), (3, .int (nI 24)), (2, .ref (a + 3)), (1, .int z13), (0, .ref a)]) hx hb dX2_waits_23 hl (by decide) rfl (fun ls hl => ?_)
      refine lv_iload_n hx hb dX2_waits_25 rfl (lv_at hl 4 rfl) ?_
      refine lv_aload hx hb dX2_waits_26 (lv_at hl 0 rfl) ?_
      refine xg_get (κ := 8) (ci := 4) (C := RX4) (T := TX4) (N := 12) hx hb hts inX4 hown hK hW (O.p hτ hk13) (by decide) rfl rfl 7 (by decide) (hts (.fieldLink RX2 78 "HalfTickets$Person" "waits" "I") (List.mem_of_getElem? (i := 2) (by decide +kernel))) (fun _ h9 => h9) rfl dX2_waits_28 ?_
      refine lv_iadd hx hb dX2_waits_31 ?_
      refine lv_istore_n (lv' := [(1, .int (z13 + (M (a + 2 * k13 + 34) 7))), (5, .ref (a + 2 * k13 + 34)), (4, .int (nI k13)), (3, .int (nI 24)), (2, .ref (a + 3)), (0, .ref a)]) hx hb dX2_waits_32 rfl hl (by decide) rfl (fun ls hl => ?_)
      refine lv_iinc (v := (nI (k13 + 1))) (lv' := [(4, .int (nI (k13 + 1))), (1, .int (z13 + (M (a + 2 * k13 + 34) 7))), (5, .ref (a + 2 * k13 + 34)), (3, .int (nI 24)), (2, .ref (a + 3)), (0, .ref a)]) hx hb dX2_waits_33 hl (k := 2) rfl ((nI_1 k13)) (by decide) rfl (fun ls hl => ?_)
      refine lv_goto (tgt := 13) hx hb dX2_waits_36 (by decide) ?_
      exact ih13 (z13 + (M (a + 2 * k13 + 34) 7)) _ _ _ ⟨hW, hS, lv_sub hl [0, 3, 4, 1, 5] rfl, (by rw [hE13]; rfl)⟩

set_option maxHeartbeats 4000000 in
set_option maxRecDepth 100000 in
/-- sendings back of all people -/
theorem c_X2_timesSentBack (l : Launch) {G : va_G} {g : Nat → ClassId} {t0 τ : Nat → Nat} {A : Nat → Prop} (O : xk_O τ A) (M : xm_T) (a : Nat) (hτ : τ a = 1) : Met l yX2_timesSentBack wsX2_timesSentBack ({ frames := 0, cells := 0, slots := 0, locals := 0 }) (va_Pc [.ref a] (xS_t G g t0 τ A M)) (va_Qi (fun r M' => r = xf_sum (fun k => M (a + 2 * k + 34) 9) 24 ∧ M' = M) (fun M' t => xw_D G g τ M' t.heap) A) 0 0 A := by
  refine Met.ofW (cc := cX2_timesSentBack) (maxL := 6) (ret := (some .int)) (by decide) rfl ?_
  intro p e s m args below meth c s₁ B hml hv
  obtain ⟨rfl, hW, hK, hst, hnw⟩ := hv
  have hx := B.exec
  have hb := B.bytes
  have hr := B.returns
  have hts := atoms_spec (ws := wsX2_timesSentBack) B.pre
  have hown : s.vm.findClass RX2 = some m.cls := findClass_of_methodNamed B.named
  have hlocks := B.notSynchronized
  have hS : va_S A s.heap s.heap [] := va_S.rf
  have inX2 : ∀ w ∈ u_ws RX2 TX2 7, w ∈ wsX2_timesSentBack := by decide +kernel
  have inX4 : ∀ w ∈ u_ws RX4 TX4 12, w ∈ wsX2_timesSentBack := by decide +kernel
  have hl := lv_entry ([.ref a]) (n := 6) (Nat.le_of_ble_eq_true rfl)
  rw [lg_entry_eq]
  generalize (lg_sl ([.ref a]) ++ List.replicate (6 - (lg_sl ([.ref a])).length) Slot.unset).toArray = ls at hl ⊢
  have hl : lv_has ls 6 [(0, .ref a)] := hl
  refine lv_iconst (v := (nI 0)) hx hb dX2_timesSentBack_0 (by decide) ?_
  refine lv_istore_n (lv' := [(1, .int (nI 0)), (0, .ref a)]) hx hb dX2_timesSentBack_1 rfl hl (by decide) rfl (fun ls hl => ?_)
  refine lv_aload_n hx hb dX2_timesSentBack_2 rfl (lv_at hl 1 rfl) ?_
  refine xg_get (κ := 1) (ci := 2) (C := RX2) (T := TX2) (N := 7) hx hb hts inX2 hown hK hW hτ (by decide) rfl rfl 2 (by decide) (hts (.fieldLink RX2 31 "HalfTickets$Ministry" "persons" "[LHalfTickets$Person;") (List.mem_of_getElem? (i := 1) (by decide +kernel))) (fun _ h9 => h9) rfl dX2_timesSentBack_3 ?_
  refine lv_astore_n (lv' := [(2, .ref (a + 3)), (1, .int (nI 0)), (0, .ref a)]) hx hb dX2_timesSentBack_6 rfl hl (by decide) rfl (fun ls hl => ?_)
  refine lv_aload_n hx hb dX2_timesSentBack_7 rfl (lv_at hl 0 rfl) ?_
  refine xg_alen (κ := 4) (v := nI 24) hx hb hK hW (O.m3 hτ) (by decide) rfl 4 rfl rfl dX2_timesSentBack_8 ?_
  refine lv_istore_n (lv' := [(3, .int (nI 24)), (2, .ref (a + 3)), (1, .int (nI 0)), (0, .ref a)]) hx hb dX2_timesSentBack_9 rfl hl (by decide) rfl (fun ls hl => ?_)
  refine lv_iconst (v := (nI 0)) hx hb dX2_timesSentBack_10 (by decide) ?_
  refine lv_istore (lv' := [(4, .int (nI 0)), (3, .int (nI 24)), (2, .ref (a + 3)), (1, .int (nI 0)), (0, .ref a)]) hx hb dX2_timesSentBack_11 hl (by decide) rfl (fun ls hl => ?_)
  refine xl_up (σ := Int32) 24 (fun kk zz H locs ls => xw_D G g τ M H ∧ va_S A s.heap H locs ∧ lv_has ls 6 [(4, .int (nI kk)), (3, .int (nI 24)), (2, .ref (a + 3)), (1, .int zz), (0, .ref a)] ∧ zz = xf_sum (fun k => M (a + 2 * k + 34) 9) kk) (fun z13 H locs ls hI => ?_) (fun k13 z13 H locs ls hk13 hI ih13 => ?_) (k0 := 0) (z0 := (nI 0)) (Nat.zero_le _) ⟨hW, hS, lv_sub hl [0, 1, 2, 3, 4] rfl, rfl⟩
  · obtain ⟨hW, hS, hl, hE13⟩ := hI
    refine lv_iload hx hb dX2_timesSentBack_13 (lv_at hl 0 rfl) ?_
    refine lv_iload_n hx hb dX2_timesSentBack_15 rfl (lv_at hl 1 rfl) ?_
    refine lv_icmp_ge (tgt := 39) hx hb dX2_timesSentBack_16 (by decide) (fun c_1 => ?_) (fun c_1 => ?_)
    · refine lv_iload_n hx hb dX2_timesSentBack_39 rfl (lv_at hl 3 rfl) ?_
      exact W.iret (v := z13) hx hb hr (fun t ht hWm => ⟨⟨z13, M, rfl, ⟨hE13, rfl⟩, xw_end ht hW⟩, hS.F ht⟩) hS.2.2 dX2_timesSentBack_40
    · exact absurd (nI_le (Nat.le_refl _) (by decide)) c_1
  · obtain ⟨hW, hS, hl, hE13⟩ := hI
    refine lv_iload hx hb dX2_timesSentBack_13 (lv_at hl 0 rfl) ?_
    refine lv_iload_n hx hb dX2_timesSentBack_15 rfl (lv_at hl 1 rfl) ?_
    refine lv_icmp_ge (tgt := 39) hx hb dX2_timesSentBack_16 (by decide) (fun c_2 => ?_) (fun c_2 => ?_)
    · exact absurd c_2 (nI_ge hk13 (by decide))
    · refine lv_aload_n hx hb dX2_timesSentBack_19 rfl (lv_at hl 2 rfl) ?_
      refine lv_iload hx hb dX2_timesSentBack_20 (lv_at hl 0 rfl) ?_
      refine xg_aldP (a := a) hx hb hK hW (O.m3 hτ) k13 rfl hk13 dX2_timesSentBack_22 ?_
      refine lv_astore (lv' := [(5, .ref (a + 2 * k13 + 34)), (4, .int (nI k13)), (3, .int (nI 24)), (2, .ref (a + 3)), (1, .int z13), (0, .ref a)]) hx hb dX2_timesSentBack_23 hl (by decide) rfl (fun ls hl => ?_)
      refine lv_iload_n hx hb dX2_timesSentBack_25 rfl (lv_at hl 4 rfl) ?_
      refine lv_aload hx hb dX2_timesSentBack_26 (lv_at hl 0 rfl) ?_
      refine xg_get (κ := 8) (ci := 4) (C := RX4) (T := TX4) (N := 12) hx hb hts inX4 hown hK hW (O.p hτ hk13) (by decide) rfl rfl 9 (by decide) (hts (.fieldLink RX2 81 "HalfTickets$Person" "sentBack" "I") (List.mem_of_getElem? (i := 2) (by decide +kernel))) (fun _ h9 => h9) rfl dX2_timesSentBack_28 ?_
      refine lv_iadd hx hb dX2_timesSentBack_31 ?_
      refine lv_istore_n (lv' := [(1, .int (z13 + (M (a + 2 * k13 + 34) 9))), (5, .ref (a + 2 * k13 + 34)), (4, .int (nI k13)), (3, .int (nI 24)), (2, .ref (a + 3)), (0, .ref a)]) hx hb dX2_timesSentBack_32 rfl hl (by decide) rfl (fun ls hl => ?_)
      refine lv_iinc (v := (nI (k13 + 1))) (lv' := [(4, .int (nI (k13 + 1))), (1, .int (z13 + (M (a + 2 * k13 + 34) 9))), (5, .ref (a + 2 * k13 + 34)), (3, .int (nI 24)), (2, .ref (a + 3)), (0, .ref a)]) hx hb dX2_timesSentBack_33 hl (k := 2) rfl ((nI_1 k13)) (by decide) rfl (fun ls hl => ?_)
      refine lv_goto (tgt := 13) hx hb dX2_timesSentBack_36 (by decide) ?_
      exact ih13 (z13 + (M (a + 2 * k13 + 34) 9)) _ _ _ ⟨hW, hS, lv_sub hl [0, 3, 4, 1, 5] rfl, (by rw [hE13]; rfl)⟩

set_option maxHeartbeats 4000000 in
set_option maxRecDepth 100000 in
/-- History.kept() -/
theorem c_X0_kept (l : Launch) {G : va_G} {g : Nat → ClassId} {t0 τ : Nat → Nat} {A : Nat → Prop} (O : xk_O τ A) (M : xm_T) (h : Nat) (hτ : τ h = 10) : Met l yX0_kept wsX0_kept ({ frames := 0, cells := 0, slots := 0, locals := 0 }) (va_Pc [.ref h] (xS_t G g t0 τ A M)) (va_Qi (fun r M' => r = M h 2 ∧ M' = M) (fun M' t => xw_D G g τ M' t.heap) A) 0 0 A := by
  refine Met.ofW (cc := cX0_kept) (maxL := 1) (ret := (some .int)) (by decide) rfl ?_
  intro p e s m args below meth c s₁ B hml hv
  obtain ⟨rfl, hW, hK, hst, hnw⟩ := hv
  have hx := B.exec
  have hb := B.bytes
  have hr := B.returns
  have hts := atoms_spec (ws := wsX0_kept) B.pre
  have hown : s.vm.findClass RX0 = some m.cls := findClass_of_methodNamed B.named
  have hlocks := B.notSynchronized
  have hS : va_S A s.heap s.heap [] := va_S.rf
  have inX0 : ∀ w ∈ u_ws RX0 TX0 3, w ∈ wsX0_kept := by decide +kernel
  have hl := lv_entry ([.ref h]) (n := 1) (Nat.le_of_ble_eq_true rfl)
  rw [lg_entry_eq]
  generalize (lg_sl ([.ref h]) ++ List.replicate (1 - (lg_sl ([.ref h])).length) Slot.unset).toArray = ls at hl ⊢
  have hl : lv_has ls 1 [(0, .ref h)] := hl
  refine lv_aload_n hx hb dX0_kept_0 rfl (lv_at hl 0 rfl) ?_
  refine xg_get (κ := 10) (ci := 0) (C := RX0) (T := TX0) (N := 3) hx hb hts inX0 hown hK hW hτ (by decide) rfl rfl 2 (by decide) (hts (.fieldLink RX0 18 "HalfTickets$History" "kept" "I") (List.mem_of_getElem? (i := 1) (by decide +kernel))) (fun _ h9 => h9) rfl dX0_kept_1 ?_
  exact W.iret (v := (M h 2)) hx hb hr (fun t ht hWm => ⟨⟨(M h 2), M, rfl, ⟨rfl, rfl⟩, xw_end ht hW⟩, hS.F ht⟩) hS.2.2 dX0_kept_4

set_option maxHeartbeats 4000000 in
set_option maxRecDepth 100000 in
/-- Pad.length() -/
theorem c_X3_length (l : Launch) {G : va_G} {g : Nat → ClassId} {t0 τ : Nat → Nat} {A : Nat → Prop} (O : xk_O τ A) (M : xm_T) (d : Nat) (hτ : τ d = 14) : Met l yX3_length wsX3_length ({ frames := 0, cells := 0, slots := 0, locals := 0 }) (va_Pc [.ref d] (xS_t G g t0 τ A M)) (va_Qi (fun r M' => r = M d 1 ∧ M' = M) (fun M' t => xw_D G g τ M' t.heap) A) 0 0 A := by
  refine Met.ofW (cc := cX3_length) (maxL := 1) (ret := (some .int)) (by decide) rfl ?_
  intro p e s m args below meth c s₁ B hml hv
  obtain ⟨rfl, hW, hK, hst, hnw⟩ := hv
  have hx := B.exec
  have hb := B.bytes
  have hr := B.returns
  have hts := atoms_spec (ws := wsX3_length) B.pre
  have hown : s.vm.findClass RX3 = some m.cls := findClass_of_methodNamed B.named
  have hlocks := B.notSynchronized
  have hS : va_S A s.heap s.heap [] := va_S.rf
  have inX3 : ∀ w ∈ u_ws RX3 TX3 2, w ∈ wsX3_length := by decide +kernel
  have hl := lv_entry ([.ref d]) (n := 1) (Nat.le_of_ble_eq_true rfl)
  rw [lg_entry_eq]
  generalize (lg_sl ([.ref d]) ++ List.replicate (1 - (lg_sl ([.ref d])).length) Slot.unset).toArray = ls at hl ⊢
  have hl : lv_has ls 1 [(0, .ref d)] := hl
  refine lv_aload_n hx hb dX3_length_0 rfl (lv_at hl 0 rfl) ?_
  refine xg_get (κ := 14) (ci := 3) (C := RX3) (T := TX3) (N := 2) hx hb hts inX3 hown hK hW hτ (by decide) rfl rfl 1 (by decide) (hts (.fieldLink RX3 21 "HalfTickets$Pad" "length" "I") (List.mem_of_getElem? (i := 1) (by decide +kernel))) (fun _ h9 => h9) rfl dX3_length_1 ?_
  exact W.iret (v := (M d 1)) hx hb hr (fun t ht hWm => ⟨⟨(M d 1), M, rfl, ⟨rfl, rfl⟩, xw_end ht hW⟩, hS.F ht⟩) hS.2.2 dX3_length_4

set_option maxHeartbeats 4000000 in
set_option maxRecDepth 100000 in
/-- Pad.clear() -/
theorem c_X3_clear (l : Launch) {G : va_G} {g : Nat → ClassId} {t0 τ : Nat → Nat} {A : Nat → Prop} (O : xk_O τ A) (M : xm_T) (d : Nat) (hτ : τ d = 14) : Met l yX3_clear wsX3_clear ({ frames := 0, cells := 0, slots := 0, locals := 0 }) (va_Pc [.ref d] (xS_t G g t0 τ A M)) (va_Qv (fun M' => M' = xu_p M d 1 (nI 0)) (fun M' t => xw_D G g τ M' t.heap) A) 0 0 A := by
  refine Met.ofW (cc := cX3_clear) (maxL := 1) (ret := none) (by decide) rfl ?_
  intro p e s m args below meth c s₁ B hml hv
  obtain ⟨rfl, hW, hK, hst, hnw⟩ := hv
  have hx := B.exec
  have hb := B.bytes
  have hr := B.returns
  have hts := atoms_spec (ws := wsX3_clear) B.pre
  have hown : s.vm.findClass RX3 = some m.cls := findClass_of_methodNamed B.named
  have hlocks := B.notSynchronized
  have hS : va_S A s.heap s.heap [] := va_S.rf
  have inX3 : ∀ w ∈ u_ws RX3 TX3 2, w ∈ wsX3_clear := by decide +kernel
  have hl := lv_entry ([.ref d]) (n := 1) (Nat.le_of_ble_eq_true rfl)
  rw [lg_entry_eq]
  generalize (lg_sl ([.ref d]) ++ List.replicate (1 - (lg_sl ([.ref d])).length) Slot.unset).toArray = ls at hl ⊢
  have hl : lv_has ls 1 [(0, .ref d)] := hl
  refine lv_aload_n hx hb dX3_clear_0 rfl (lv_at hl 0 rfl) ?_
  refine lv_iconst (v := (nI 0)) hx hb dX3_clear_1 (by decide) ?_
  refine xg_put (κ := 14) (ci := 3) (C := RX3) (T := TX3) (N := 2) hx hb hts inX3 tyX3 tyX3_ok nmX3 hown hK O hW hS hτ (by decide) rfl rfl 1 (by decide) (v := (nI 0)) rfl trivial (hts (.fieldLink RX3 21 "HalfTickets$Pad" "length" "I") (List.mem_of_getElem? (i := 1) (by decide +kernel))) (fun _ h9 => h9) rfl (ty := .int) (by decide +kernel) rfl rfl (Nat.le_of_ble_eq_true rfl) dX3_clear_2 (fun H locs hW hS => ?_)
  obtain ⟨M_1, eM_1⟩ : ∃ M9, M9 = xu_p M d 1 (nI 0) := ⟨_, rfl⟩
  rw [← eM_1] at hW
  exact W.vret hx hb hr (fun t ht hWm => ⟨⟨M_1, rfl, eM_1, xw_end ht hW⟩, hS.F ht⟩) hS.2.2 dX3_clear_5
