/-- the block of n rows at o, at a too -/
def xf_cp (M : xm_T) (a o n : Nat) : xm_T := fun x => if a ≤ x ∧ x < a + n then M (x - a + o) else M x
theorem xf_cp_add {M : xm_T} {a o n k a' o' : Nat} (hd : o + (n + k) ≤ a ∨ a + (n + k) ≤ o) (ha : a' = a + n) (ho : o' = o + n) : xf_cp (xf_cp M a o n) a' o' k = xf_cp M a o (n + k) := by
  subst ha; subst ho
  funext x
  unfold xf_cp
  by_cases h1 : a + n ≤ x ∧ x < a + n + k
  · rw [if_pos h1, if_neg (show ¬ (a ≤ x - (a + n) + (o + n) ∧ x - (a + n) + (o + n) < a + n) by omega), if_pos (show a ≤ x ∧ x < a + (n + k) by omega)]
    congr 1
    omega
  · rw [if_neg h1]
    by_cases h2 : a ≤ x ∧ x < a + n
    · rw [if_pos h2, if_pos (show a ≤ x ∧ x < a + (n + k) by omega)]
    · rw [if_neg h2, if_neg (show ¬ (a ≤ x ∧ x < a + (n + k)) by omega)]
theorem xf_cp_0 (M : xm_T) (a o : Nat) : xf_cp M a o 0 = M := by
  funext x
  unfold xf_cp
  rw [if_neg (by omega)]
theorem xf_in {M : xm_T} {a o n x : Nat} (h : a ≤ x ∧ x < a + n) : xf_cp M a o n x = M (x - a + o) := if_pos h
theorem xf_out {M : xm_T} {a o n x : Nat} (h : x < a ∨ a + n ≤ x) : xf_cp M a o n x = M x := if_neg (by omega)
/-- two memories that say the same of the world -/
theorem xw_cg {G : va_G} {g : Nat → ClassId} {τ : Nat → Nat} {M M' : xm_T} {H : Heap} (hW : xw_D G g τ M H) (h : ∀ x, τ x ≠ 0 → M x = M' x ∨ (xw_cell g (τ x) (M x) x = xw_cell g (τ x) (M' x) x ∧ (xw_ok (τ x) (M x) → xw_ok (τ x) (M' x)))) : xw_D G g τ M' H := by
  intro x hx
  obtain ⟨h1, h2⟩ := hW x hx
  rcases h x hx with e | ⟨e1, e2⟩
  · rw [← e]; exact ⟨h1, h2⟩
  · rw [← e1]; exact ⟨h1, e2 h2⟩

set_option maxHeartbeats 4000000 in
set_option maxRecDepth 100000 in
/-- Line.become(o) -/
theorem c_X1_become (l : Launch) {G : va_G} {g : Nat → ClassId} {t0 τ : Nat → Nat} {A : Nat → Prop} (O : xk_O τ A) (M : xm_T) (q o : Nat) (hτ : τ q = 6) (hτo : τ o = 6) (hd : q + 2 ≤ o ∨ o + 2 ≤ q) : Met l yX1_become wsX1_become ({ frames := 1, cells := 0, slots := 0, locals := 40 }) (va_Pc [.ref q, .ref o] (xS_t G g t0 τ A M)) (va_Qv (fun M' => M' = xf_cp M q o 2) (fun M' t => xw_D G g τ M' t.heap) A) 0 0 A := by
  refine Met.ofW (cc := cX1_become) (maxL := 2) (ret := none) (by decide) rfl ?_
  intro p e s m args below meth c s₁ B hml hv
  obtain ⟨rfl, hW, hK, hst, hnw⟩ := hv
  have hx := B.exec
  have hb := B.bytes
  have hr := B.returns
  have hts := atoms_spec (ws := wsX1_become) B.pre
  have hown : s.vm.findClass RX1 = some m.cls := findClass_of_methodNamed B.named
  have hlocks := B.notSynchronized
  have hS : va_S A s.heap s.heap [] := va_S.rf
  have inX1 : ∀ w ∈ u_ws RX1 TX1 2, w ∈ wsX1_become := by decide +kernel
  have hl := lv_entry ([.ref q, .ref o]) (n := 2) (Nat.le_of_ble_eq_true rfl)
  rw [lg_entry_eq]
  generalize (lg_sl ([.ref q, .ref o]) ++ List.replicate (2 - (lg_sl ([.ref q, .ref o])).length) Slot.unset).toArray = ls at hl ⊢
  have hl : lv_has ls 2 [(0, .ref q), (1, .ref o)] := hl
  have hO : ∀ j, M o j = M o j := fun _ => rfl
  refine lv_aload_n hx hb dX1_become_0 rfl (lv_at hl 1 rfl) ?_
  refine xg_get (κ := 6) (ci := 1) (C := RX1) (T := TX1) (N := 2) hx hb hts inX1 hown hK hW hτo (by decide) rfl rfl 0 (by decide) (hts (.fieldLink RX1 9 "HalfTickets$Line" "numbers" "[I") (List.mem_of_getElem? (i := 1) (by decide +kernel))) (fun _ h9 => h9) rfl dX1_become_1 ?_
  refine lv_iconst (v := (nI 0)) hx hb dX1_become_4 (by decide) ?_
  refine lv_aload_n hx hb dX1_become_5 rfl (lv_at hl 0 rfl) ?_
  refine xg_get (κ := 6) (ci := 1) (C := RX1) (T := TX1) (N := 2) hx hb hts inX1 hown hK hW hτ (by decide) rfl rfl 0 (by decide) (hts (.fieldLink RX1 9 "HalfTickets$Line" "numbers" "[I") (List.mem_of_getElem? (i := 1) (by decide +kernel))) (fun _ h9 => h9) rfl dX1_become_6 ?_
  refine lv_iconst (v := (nI 0)) hx hb dX1_become_9 (by decide) ?_
  refine lv_bipush (v := (nI 24)) hx hb dX1_become_10 (by decide) ?_
  refine xg_cpy (κ := 124) (n := 24) hx hb (by rw [hml]; exact hl.1.symm) hown (hts (.methodLink RX1 23 arraycopyName) (List.mem_of_getElem? (i := 2) (by decide +kernel))) (hts (.native arraycopyName) (List.mem_of_getElem? (i := 3) (by decide +kernel))) (hts (.static arraycopyName) (List.mem_of_getElem? (i := 4) (by decide +kernel))) (hts (.initialized "java/lang/System") (List.mem_of_getElem? (i := 5) (by decide +kernel))) hK O hW hS (O.l hτo) (O.l hτ) (by decide) (fun _ _ => rfl) (fun _ => trivial) rfl rfl rfl (by decide) (Nat.le_of_ble_eq_true rfl) (by decide +kernel) dX1_become_12 (fun H locs hW hS => ?_)
  obtain ⟨M_1, eM_1⟩ : ∃ M9, M9 = xr_up M (q + 1) (M (o + 1)) := ⟨_, rfl⟩
  rw [← eM_1] at hW
  have hO : ∀ j, M_1 o j = M o j := fun j => (show M_1 o j = M o j by rw [eM_1, xr_n _ _ (by omega)]).trans (hO j)
  refine lv_aload_n hx hb dX1_become_15 rfl (lv_at hl 0 rfl) ?_
  refine lv_aload_n hx hb dX1_become_16 rfl (lv_at hl 1 rfl) ?_
  refine xg_get (κ := 6) (ci := 1) (C := RX1) (T := TX1) (N := 2) hx hb hts inX1 hown hK hW hτo (by decide) rfl rfl 1 (by decide) (hts (.fieldLink RX1 15 "HalfTickets$Line" "length" "I") (List.mem_of_getElem? (i := 6) (by decide +kernel))) (fun _ h9 => h9) rfl dX1_become_17 ?_
  rw [hO 1]
  refine xg_put (κ := 6) (ci := 1) (C := RX1) (T := TX1) (N := 2) hx hb hts inX1 tyX1 tyX1_ok nmX1 hown hK O hW hS hτ (by decide) rfl rfl 1 (by decide) (v := (M o 1)) rfl trivial (hts (.fieldLink RX1 15 "HalfTickets$Line" "length" "I") (List.mem_of_getElem? (i := 6) (by decide +kernel))) (fun _ h9 => h9) rfl (ty := .int) (by decide +kernel) rfl rfl (Nat.le_of_ble_eq_true rfl) dX1_become_20 (fun H locs hW hS => ?_)
  obtain ⟨M_2, eM_2⟩ : ∃ M9, M9 = xu_p M_1 q 1 (M o 1) := ⟨_, rfl⟩
  rw [← eM_2] at hW
  have hO : ∀ j, M_2 o j = M o j := fun j => (show M_2 o j = M_1 o j by rw [eM_2, xu_n _ (Or.inl (by omega))]).trans (hO j)
  replace hW : xw_D G g τ (xf_cp M q o 2) H := xw_cg hW (fun x hx => by
      subst eM_2
      subst eM_1
      by_cases h1 : x = q
      · right
        rw [h1, hτ, xf_in (by omega), show q - q + o = o by omega]
        have e1 : xu_p (xr_up M (q + 1) (M (o + 1))) q 1 (M o 1) q 1 = M o 1 := xu_s _ _ _ _
        exact ⟨by show (Sum.inr (1, [_, _]) : va_E) = .inr (1, [_, _]); rw [e1], fun _ => trivial⟩
      · left
        unfold xu_p
        rw [xr_n _ _ h1]
        by_cases h2 : x = q + 1
        · rw [h2, xr_s, xf_in (by omega)]
          congr 1
          omega
        · rw [xr_n _ _ h2, xf_out (by omega)])
  exact W.vret hx hb hr (fun t ht hWm => ⟨⟨(xf_cp M q o 2), rfl, rfl, xw_end ht hW⟩, hS.F ht⟩) hS.2.2 dX1_become_23

set_option maxHeartbeats 4000000 in
set_option maxRecDepth 100000 in
/-- Person.become(o) -/
theorem c_X4_become (l : Launch) {G : va_G} {g : Nat → ClassId} {t0 τ : Nat → Nat} {A : Nat → Prop} (O : xk_O τ A) (M : xm_T) (a o : Nat) (hτ : τ a = 8) (hτo : τ o = 8) (hd : a + 2 ≤ o ∨ o + 2 ≤ a) (hN : M a 0 = M o 0) : Met l yX4_become wsX4_become ({ frames := 1, cells := 0, slots := 0, locals := 40 }) (va_Pc [.ref a, .ref o] (xS_t G g t0 τ A M)) (va_Qv (fun M' => M' = xf_cp M a o 2) (fun M' t => xw_D G g τ M' t.heap) A) 0 0 A := by
  refine Met.ofW (cc := cX4_become) (maxL := 2) (ret := none) (by decide) rfl ?_
  intro p e s m args below meth c s₁ B hml hv
  obtain ⟨rfl, hW, hK, hst, hnw⟩ := hv
  have hx := B.exec
  have hb := B.bytes
  have hr := B.returns
  have hts := atoms_spec (ws := wsX4_become) B.pre
  have hown : s.vm.findClass RX4 = some m.cls := findClass_of_methodNamed B.named
  have hlocks := B.notSynchronized
  have hS : va_S A s.heap s.heap [] := va_S.rf
  have inX4 : ∀ w ∈ u_ws RX4 TX4 12, w ∈ wsX4_become := by decide +kernel
  have hl := lv_entry ([.ref a, .ref o]) (n := 2) (Nat.le_of_ble_eq_true rfl)
  rw [lg_entry_eq]
  generalize (lg_sl ([.ref a, .ref o]) ++ List.replicate (2 - (lg_sl ([.ref a, .ref o])).length) Slot.unset).toArray = ls at hl ⊢
  have hl : lv_has ls 2 [(0, .ref a), (1, .ref o)] := hl
  have hO : ∀ j, M o j = M o j := fun _ => rfl
  have hok : xw_ok 8 (M o) := xw_okp hW hτo (by decide)
  refine lv_aload_n hx hb dX4_become_0 rfl (lv_at hl 1 rfl) ?_
  refine xg_get (κ := 8) (ci := 4) (C := RX4) (T := TX4) (N := 12) hx hb hts inX4 hown hK hW hτo (by decide) rfl rfl 1 (by decide) (hts (.fieldLink RX4 9 "HalfTickets$Person" "errand" "[I") (List.mem_of_getElem? (i := 1) (by decide +kernel))) (fun _ h9 => h9) rfl dX4_become_1 ?_
  refine lv_iconst (v := (nI 0)) hx hb dX4_become_4 (by decide) ?_
  refine lv_aload_n hx hb dX4_become_5 rfl (lv_at hl 0 rfl) ?_
  refine xg_get (κ := 8) (ci := 4) (C := RX4) (T := TX4) (N := 12) hx hb hts inX4 hown hK hW hτ (by decide) rfl rfl 1 (by decide) (hts (.fieldLink RX4 9 "HalfTickets$Person" "errand" "[I") (List.mem_of_getElem? (i := 1) (by decide +kernel))) (fun _ h9 => h9) rfl dX4_become_6 ?_
  refine lv_iconst (v := (nI 0)) hx hb dX4_become_9 (by decide) ?_
  refine lv_bipush (v := (nI 8)) hx hb dX4_become_10 (by decide) ?_
  refine xg_cpy (κ := 108) (n := 8) hx hb (by rw [hml]; exact hl.1.symm) hown (hts (.methodLink RX4 25 arraycopyName) (List.mem_of_getElem? (i := 2) (by decide +kernel))) (hts (.native arraycopyName) (List.mem_of_getElem? (i := 3) (by decide +kernel))) (hts (.static arraycopyName) (List.mem_of_getElem? (i := 4) (by decide +kernel))) (hts (.initialized "java/lang/System") (List.mem_of_getElem? (i := 5) (by decide +kernel))) hK O hW hS (O.e hτo) (O.e hτ) (by decide) (fun _ _ => rfl) (fun _ => trivial) rfl rfl rfl (by decide) (Nat.le_of_ble_eq_true rfl) (by decide +kernel) dX4_become_12 (fun H locs hW hS => ?_)
  obtain ⟨M_1, eM_1⟩ : ∃ M9, M9 = xr_up M (a + 1) (M (o + 1)) := ⟨_, rfl⟩
  rw [← eM_1] at hW
  have hO : ∀ j, M_1 o j = M o j := fun j => (show M_1 o j = M o j by rw [eM_1, xr_n _ _ (by omega)]).trans (hO j)
  refine lv_aload_n hx hb dX4_become_15 rfl (lv_at hl 0 rfl) ?_
  refine lv_aload_n hx hb dX4_become_16 rfl (lv_at hl 1 rfl) ?_
  refine xg_get (κ := 8) (ci := 4) (C := RX4) (T := TX4) (N := 12) hx hb hts inX4 hown hK hW hτo (by decide) rfl rfl 2 (by decide) (hts (.fieldLink RX4 31 "HalfTickets$Person" "errandLength" "I") (List.mem_of_getElem? (i := 6) (by decide +kernel))) (fun _ h9 => h9) rfl dX4_become_17 ?_
  rw [hO 2]
  refine xg_put (κ := 8) (ci := 4) (C := RX4) (T := TX4) (N := 12) hx hb hts inX4 tyX4 tyX4_ok nmX4 hown hK O hW hS hτ (by decide) rfl rfl 2 (by decide) (v := (M o 2)) rfl (xw_okp hW hτ (by decide)) (hts (.fieldLink RX4 31 "HalfTickets$Person" "errandLength" "I") (List.mem_of_getElem? (i := 6) (by decide +kernel))) (fun _ h9 => h9) rfl (ty := .int) (by decide +kernel) rfl rfl (Nat.le_of_ble_eq_true rfl) dX4_become_20 (fun H locs hW hS => ?_)
  obtain ⟨M_2, eM_2⟩ : ∃ M9, M9 = xu_p M_1 a 2 (M o 2) := ⟨_, rfl⟩
  rw [← eM_2] at hW
  have hO : ∀ j, M_2 o j = M o j := fun j => (show M_2 o j = M_1 o j by rw [eM_2, xu_n _ (Or.inl (by omega))]).trans (hO j)
  refine lv_aload_n hx hb dX4_become_23 rfl (lv_at hl 0 rfl) ?_
  refine lv_aload_n hx hb dX4_become_24 rfl (lv_at hl 1 rfl) ?_
  refine xg_get (κ := 8) (ci := 4) (C := RX4) (T := TX4) (N := 12) hx hb hts inX4 hown hK hW hτo (by decide) rfl rfl 3 (by decide) (hts (.fieldLink RX4 15 "HalfTickets$Person" "where" "I") (List.mem_of_getElem? (i := 7) (by decide +kernel))) (fun _ h9 => h9) rfl dX4_become_25 ?_
  rw [hO 3]
  refine xg_put (κ := 8) (ci := 4) (C := RX4) (T := TX4) (N := 12) hx hb hts inX4 tyX4 tyX4_ok nmX4 hown hK O hW hS hτ (by decide) rfl rfl 3 (by decide) (v := (M o 3)) rfl (xw_okp hW hτ (by decide)) (hts (.fieldLink RX4 15 "HalfTickets$Person" "where" "I") (List.mem_of_getElem? (i := 7) (by decide +kernel))) (fun _ h9 => h9) rfl (ty := .int) (by decide +kernel) rfl rfl (Nat.le_of_ble_eq_true rfl) dX4_become_28 (fun H locs hW hS => ?_)
  obtain ⟨M_3, eM_3⟩ : ∃ M9, M9 = xu_p M_2 a 3 (M o 3) := ⟨_, rfl⟩
  rw [← eM_3] at hW
  have hO : ∀ j, M_3 o j = M o j := fun j => (show M_3 o j = M_2 o j by rw [eM_3, xu_n _ (Or.inl (by omega))]).trans (hO j)
  refine lv_aload_n hx hb dX4_become_31 rfl (lv_at hl 0 rfl) ?_
  refine lv_aload_n hx hb dX4_become_32 rfl (lv_at hl 1 rfl) ?_
  refine xg_get (κ := 8) (ci := 4) (C := RX4) (T := TX4) (N := 12) hx hb hts inX4 hown hK hW hτo (by decide) rfl rfl 4 (by decide) (hts (.fieldLink RX4 34 "HalfTickets$Person" "through" "I") (List.mem_of_getElem? (i := 8) (by decide +kernel))) (fun _ h9 => h9) rfl dX4_become_33 ?_
  rw [hO 4]
  refine xg_put (κ := 8) (ci := 4) (C := RX4) (T := TX4) (N := 12) hx hb hts inX4 tyX4 tyX4_ok nmX4 hown hK O hW hS hτ (by decide) rfl rfl 4 (by decide) (v := (M o 4)) rfl (xw_okp hW hτ (by decide)) (hts (.fieldLink RX4 34 "HalfTickets$Person" "through" "I") (List.mem_of_getElem? (i := 8) (by decide +kernel))) (fun _ h9 => h9) rfl (ty := .int) (by decide +kernel) rfl rfl (Nat.le_of_ble_eq_true rfl) dX4_become_36 (fun H locs hW hS => ?_)
  obtain ⟨M_4, eM_4⟩ : ∃ M9, M9 = xu_p M_3 a 4 (M o 4) := ⟨_, rfl⟩
  rw [← eM_4] at hW
  have hO : ∀ j, M_4 o j = M o j := fun j => (show M_4 o j = M_3 o j by rw [eM_4, xu_n _ (Or.inl (by omega))]).trans (hO j)
  refine lv_aload_n hx hb dX4_become_39 rfl (lv_at hl 0 rfl) ?_
  refine lv_aload_n hx hb dX4_become_40 rfl (lv_at hl 1 rfl) ?_
  refine xg_get (κ := 8) (ci := 4) (C := RX4) (T := TX4) (N := 12) hx hb hts inX4 hown hK hW hτo (by decide) rfl rfl 5 (by decide) (hts (.fieldLink RX4 37 "HalfTickets$Person" "hasHalf" "Z") (List.mem_of_getElem? (i := 9) (by decide +kernel))) (fun _ h9 => h9) rfl dX4_become_41 ?_
  rw [hO 5]
  refine xg_put (κ := 8) (ci := 4) (C := RX4) (T := TX4) (N := 12) hx hb hts inX4 tyX4 tyX4_ok nmX4 hown hK O hW hS hτ (by decide) rfl rfl 5 (by decide) (v := (M o 5)) rfl ⟨hok.1, (xw_okp hW hτ (by decide)).2⟩ (hts (.fieldLink RX4 37 "HalfTickets$Person" "hasHalf" "Z") (List.mem_of_getElem? (i := 9) (by decide +kernel))) (fun _ h9 => h9) rfl (ty := .boolean) (by decide +kernel) (xb_nar hok.1) (xb_fit hok.1) (Nat.le_of_ble_eq_true rfl) dX4_become_44 (fun H locs hW hS => ?_)
  obtain ⟨M_5, eM_5⟩ : ∃ M9, M9 = xu_p M_4 a 5 (M o 5) := ⟨_, rfl⟩
  rw [← eM_5] at hW
  have hO : ∀ j, M_5 o j = M o j := fun j => (show M_5 o j = M_4 o j by rw [eM_5, xu_n _ (Or.inl (by omega))]).trans (hO j)
  refine lv_aload_n hx hb dX4_become_47 rfl (lv_at hl 0 rfl) ?_
  refine lv_aload_n hx hb dX4_become_48 rfl (lv_at hl 1 rfl) ?_
  refine xg_get (κ := 8) (ci := 4) (C := RX4) (T := TX4) (N := 12) hx hb hts inX4 hown hK hW hτo (by decide) rfl rfl 6 (by decide) (hts (.fieldLink RX4 41 "HalfTickets$Person" "servedFor" "I") (List.mem_of_getElem? (i := 10) (by decide +kernel))) (fun _ h9 => h9) rfl dX4_become_49 ?_
  rw [hO 6]
  refine xg_put (κ := 8) (ci := 4) (C := RX4) (T := TX4) (N := 12) hx hb hts inX4 tyX4 tyX4_ok nmX4 hown hK O hW hS hτ (by decide) rfl rfl 6 (by decide) (v := (M o 6)) rfl (xw_okp hW hτ (by decide)) (hts (.fieldLink RX4 41 "HalfTickets$Person" "servedFor" "I") (List.mem_of_getElem? (i := 10) (by decide +kernel))) (fun _ h9 => h9) rfl (ty := .int) (by decide +kernel) rfl rfl (Nat.le_of_ble_eq_true rfl) dX4_become_52 (fun H locs hW hS => ?_)
  obtain ⟨M_6, eM_6⟩ : ∃ M9, M9 = xu_p M_5 a 6 (M o 6) := ⟨_, rfl⟩
  rw [← eM_6] at hW
  have hO : ∀ j, M_6 o j = M o j := fun j => (show M_6 o j = M_5 o j by rw [eM_6, xu_n _ (Or.inl (by omega))]).trans (hO j)
  refine lv_aload_n hx hb dX4_become_55 rfl (lv_at hl 0 rfl) ?_
  refine lv_aload_n hx hb dX4_become_56 rfl (lv_at hl 1 rfl) ?_
  refine xg_get (κ := 8) (ci := 4) (C := RX4) (T := TX4) (N := 12) hx hb hts inX4 hown hK hW hτo (by decide) rfl rfl 7 (by decide) (hts (.fieldLink RX4 44 "HalfTickets$Person" "waits" "I") (List.mem_of_getElem? (i := 11) (by decide +kernel))) (fun _ h9 => h9) rfl dX4_become_57 ?_
  rw [hO 7]
  refine xg_put (κ := 8) (ci := 4) (C := RX4) (T := TX4) (N := 12) hx hb hts inX4 tyX4 tyX4_ok nmX4 hown hK O hW hS hτ (by decide) rfl rfl 7 (by decide) (v := (M o 7)) rfl (xw_okp hW hτ (by decide)) (hts (.fieldLink RX4 44 "HalfTickets$Person" "waits" "I") (List.mem_of_getElem? (i := 11) (by decide +kernel))) (fun _ h9 => h9) rfl (ty := .int) (by decide +kernel) rfl rfl (Nat.le_of_ble_eq_true rfl) dX4_become_60 (fun H locs hW hS => ?_)
  obtain ⟨M_7, eM_7⟩ : ∃ M9, M9 = xu_p M_6 a 7 (M o 7) := ⟨_, rfl⟩
  rw [← eM_7] at hW
  have hO : ∀ j, M_7 o j = M o j := fun j => (show M_7 o j = M_6 o j by rw [eM_7, xu_n _ (Or.inl (by omega))]).trans (hO j)
  refine lv_aload_n hx hb dX4_become_63 rfl (lv_at hl 0 rfl) ?_
  refine lv_aload_n hx hb dX4_become_64 rfl (lv_at hl 1 rfl) ?_
  refine xg_get (κ := 8) (ci := 4) (C := RX4) (T := TX4) (N := 12) hx hb hts inX4 hown hK hW hτo (by decide) rfl rfl 8 (by decide) (hts (.fieldLink RX4 47 "HalfTickets$Person" "waitsHere" "I") (List.mem_of_getElem? (i := 12) (by decide +kernel))) (fun _ h9 => h9) rfl dX4_become_65 ?_
  rw [hO 8]
  refine xg_put (κ := 8) (ci := 4) (C := RX4) (T := TX4) (N := 12) hx hb hts inX4 tyX4 tyX4_ok nmX4 hown hK O hW hS hτ (by decide) rfl rfl 8 (by decide) (v := (M o 8)) rfl (xw_okp hW hτ (by decide)) (hts (.fieldLink RX4 47 "HalfTickets$Person" "waitsHere" "I") (List.mem_of_getElem? (i := 12) (by decide +kernel))) (fun _ h9 => h9) rfl (ty := .int) (by decide +kernel) rfl rfl (Nat.le_of_ble_eq_true rfl) dX4_become_68 (fun H locs hW hS => ?_)
  obtain ⟨M_8, eM_8⟩ : ∃ M9, M9 = xu_p M_7 a 8 (M o 8) := ⟨_, rfl⟩
  rw [← eM_8] at hW
  have hO : ∀ j, M_8 o j = M o j := fun j => (show M_8 o j = M_7 o j by rw [eM_8, xu_n _ (Or.inl (by omega))]).trans (hO j)
  refine lv_aload_n hx hb dX4_become_71 rfl (lv_at hl 0 rfl) ?_
  refine lv_aload_n hx hb dX4_become_72 rfl (lv_at hl 1 rfl) ?_
  refine xg_get (κ := 8) (ci := 4) (C := RX4) (T := TX4) (N := 12) hx hb hts inX4 hown hK hW hτo (by decide) rfl rfl 9 (by decide) (hts (.fieldLink RX4 50 "HalfTickets$Person" "sentBack" "I") (List.mem_of_getElem? (i := 13) (by decide +kernel))) (fun _ h9 => h9) rfl dX4_become_73 ?_
  rw [hO 9]
  refine xg_put (κ := 8) (ci := 4) (C := RX4) (T := TX4) (N := 12) hx hb hts inX4 tyX4 tyX4_ok nmX4 hown hK O hW hS hτ (by decide) rfl rfl 9 (by decide) (v := (M o 9)) rfl (xw_okp hW hτ (by decide)) (hts (.fieldLink RX4 50 "HalfTickets$Person" "sentBack" "I") (List.mem_of_getElem? (i := 13) (by decide +kernel))) (fun _ h9 => h9) rfl (ty := .int) (by decide +kernel) rfl rfl (Nat.le_of_ble_eq_true rfl) dX4_become_76 (fun H locs hW hS => ?_)
  obtain ⟨M_9, eM_9⟩ : ∃ M9, M9 = xu_p M_8 a 9 (M o 9) := ⟨_, rfl⟩
  rw [← eM_9] at hW
  have hO : ∀ j, M_9 o j = M o j := fun j => (show M_9 o j = M_8 o j by rw [eM_9, xu_n _ (Or.inl (by omega))]).trans (hO j)
  refine lv_aload_n hx hb dX4_become_79 rfl (lv_at hl 0 rfl) ?_
  refine lv_aload_n hx hb dX4_become_80 rfl (lv_at hl 1 rfl) ?_
  refine xg_get (κ := 8) (ci := 4) (C := RX4) (T := TX4) (N := 12) hx hb hts inX4 hown hK hW hτo (by decide) rfl rfl 10 (by decide) (hts (.fieldLink RX4 19 "HalfTickets$Person" "goneBehind" "I") (List.mem_of_getElem? (i := 14) (by decide +kernel))) (fun _ h9 => h9) rfl dX4_become_81 ?_
  rw [hO 10]
  refine xg_put (κ := 8) (ci := 4) (C := RX4) (T := TX4) (N := 12) hx hb hts inX4 tyX4 tyX4_ok nmX4 hown hK O hW hS hτ (by decide) rfl rfl 10 (by decide) (v := (M o 10)) rfl (xw_okp hW hτ (by decide)) (hts (.fieldLink RX4 19 "HalfTickets$Person" "goneBehind" "I") (List.mem_of_getElem? (i := 14) (by decide +kernel))) (fun _ h9 => h9) rfl (ty := .int) (by decide +kernel) rfl rfl (Nat.le_of_ble_eq_true rfl) dX4_become_84 (fun H locs hW hS => ?_)
  obtain ⟨M_10, eM_10⟩ : ∃ M9, M9 = xu_p M_9 a 10 (M o 10) := ⟨_, rfl⟩
  rw [← eM_10] at hW
  have hO : ∀ j, M_10 o j = M o j := fun j => (show M_10 o j = M_9 o j by rw [eM_10, xu_n _ (Or.inl (by omega))]).trans (hO j)
  refine lv_aload_n hx hb dX4_become_87 rfl (lv_at hl 0 rfl) ?_
  refine lv_aload_n hx hb dX4_become_88 rfl (lv_at hl 1 rfl) ?_
  refine xg_get (κ := 8) (ci := 4) (C := RX4) (T := TX4) (N := 12) hx hb hts inX4 hown hK hW hτo (by decide) rfl rfl 11 (by decide) (hts (.fieldLink RX4 53 "HalfTickets$Person" "cameInThisTick" "Z") (List.mem_of_getElem? (i := 15) (by decide +kernel))) (fun _ h9 => h9) rfl dX4_become_89 ?_
  rw [hO 11]
  refine xg_put (κ := 8) (ci := 4) (C := RX4) (T := TX4) (N := 12) hx hb hts inX4 tyX4 tyX4_ok nmX4 hown hK O hW hS hτ (by decide) rfl rfl 11 (by decide) (v := (M o 11)) rfl ⟨(xw_okp hW hτ (by decide)).1, hok.2⟩ (hts (.fieldLink RX4 53 "HalfTickets$Person" "cameInThisTick" "Z") (List.mem_of_getElem? (i := 15) (by decide +kernel))) (fun _ h9 => h9) rfl (ty := .boolean) (by decide +kernel) (xb_nar hok.2) (xb_fit hok.2) (Nat.le_of_ble_eq_true rfl) dX4_become_92 (fun H locs hW hS => ?_)
  obtain ⟨M_11, eM_11⟩ : ∃ M9, M9 = xu_p M_10 a 11 (M o 11) := ⟨_, rfl⟩
  rw [← eM_11] at hW
  have hO : ∀ j, M_11 o j = M o j := fun j => (show M_11 o j = M_10 o j by rw [eM_11, xu_n _ (Or.inl (by omega))]).trans (hO j)
  have hrow : ∀ j, j ≠ 1 → j < 12 → M_11 a j = M o j := by
      intro j h1 h2
      have h0 : M_1 a 0 = M o 0 := by rw [eM_1, xr_n _ _ (by omega)]; exact hN
      rcases (show j = 0 ∨ j = 2 ∨ j = 3 ∨ j = 4 ∨ j = 5 ∨ j = 6 ∨ j = 7 ∨ j = 8 ∨ j = 9 ∨ j = 10 ∨ j = 11 by omega) with h | h | h | h | h | h | h | h | h | h | h <;> subst h <;> subst_vars <;> simp [xu_p, xr_up, upd] <;> first | exact hN | skip
  have hout : ∀ x, x ≠ a → M_11 x = M_1 x := by
      intro x h
      rw [eM_11, xu_p, xr_n _ _ h, eM_10, xu_p, xr_n _ _ h, eM_9, xu_p, xr_n _ _ h, eM_8, xu_p, xr_n _ _ h, eM_7, xu_p, xr_n _ _ h, eM_6, xu_p, xr_n _ _ h, eM_5, xu_p, xr_n _ _ h, eM_4, xu_p, xr_n _ _ h, eM_3, xu_p, xr_n _ _ h, eM_2, xu_p, xr_n _ _ h]
  replace hW : xw_D G g τ (xf_cp M a o 2) H := xw_cg hW (fun x hx => by
      by_cases h1 : x = a
      · right
        rw [h1, hτ, xf_in (by omega), show a - a + o = o by omega]
        refine ⟨?_, fun _ => hok⟩
        show (Sum.inr (4, [_, _, _, _, _, _, _, _, _, _, _, _]) : va_E) = .inr (4, [_, _, _, _, _, _, _, _, _, _, _, _])
        rw [hrow 0 (by decide) (by decide), hrow 2 (by decide) (by decide), hrow 3 (by decide) (by decide), hrow 4 (by decide) (by decide), hrow 5 (by decide) (by decide), hrow 6 (by decide) (by decide), hrow 7 (by decide) (by decide), hrow 8 (by decide) (by decide), hrow 9 (by decide) (by decide), hrow 10 (by decide) (by decide), hrow 11 (by decide) (by decide)]
      · left
        rw [hout x h1, eM_1]
        by_cases h2 : x = a + 1
        · rw [h2, xr_s, xf_in (by omega)]
          congr 1
          omega
        · rw [xr_n _ _ h2, xf_out (by omega)])
  exact W.vret hx hb hr (fun t ht hWm => ⟨⟨(xf_cp M a o 2), rfl, rfl, xw_end ht hW⟩, hS.F ht⟩) hS.2.2 dX4_become_95

set_option maxHeartbeats 4000000 in
set_option maxRecDepth 100000 in
/-- Window.become(o) -/
theorem c_X5_become (l : Launch) {G : va_G} {g : Nat → ClassId} {t0 τ : Nat → Nat} {A : Nat → Prop} (O : xk_O τ A) (M : xm_T) (a o : Nat) (hτ : τ a = 5) (hτo : τ o = 5) (hd : a + 5 ≤ o ∨ o + 5 ≤ a) : Met l yX5_become wsX5_become ({ frames := 2, cells := 0, slots := 0, locals := 70 }) (va_Pc [.ref a, .ref o] (xS_t G g t0 τ A M)) (va_Qv (fun M' => M' = xf_cp M a o 5) (fun M' t => xw_D G g τ M' t.heap) A) 0 0 A := by
  refine Met.ofW (cc := cX5_become) (maxL := 2) (ret := none) (by decide) rfl ?_
  intro p e s m args below meth c s₁ B hml hv
  obtain ⟨rfl, hW, hK, hst, hnw⟩ := hv
  have hx := B.exec
  have hb := B.bytes
  have hr := B.returns
  have hts := atoms_spec (ws := wsX5_become) B.pre
  have hown : s.vm.findClass RX5 = some m.cls := findClass_of_methodNamed B.named
  have hlocks := B.notSynchronized
  have hS : va_S A s.heap s.heap [] := va_S.rf
  have inX5 : ∀ w ∈ u_ws RX5 TX5 7, w ∈ wsX5_become := by decide +kernel
  have hl := lv_entry ([.ref a, .ref o]) (n := 2) (Nat.le_of_ble_eq_true rfl)
  rw [lg_entry_eq]
  generalize (lg_sl ([.ref a, .ref o]) ++ List.replicate (2 - (lg_sl ([.ref a, .ref o])).length) Slot.unset).toArray = ls at hl ⊢
  have hl : lv_has ls 2 [(0, .ref a), (1, .ref o)] := hl
  have hO : ∀ j, M o j = M o j := fun _ => rfl
  have hok : xw_ok 5 (M o) := xw_okp hW hτo (by decide)
  refine lv_aload_n hx hb dX5_become_0 rfl (lv_at hl 0 rfl) ?_
  refine lv_aload_n hx hb dX5_become_1 rfl (lv_at hl 1 rfl) ?_
  refine xg_get (κ := 5) (ci := 5) (C := RX5) (T := TX5) (N := 7) hx hb hts inX5 hown hK hW hτo (by decide) rfl rfl 0 (by decide) (hts (.fieldLink RX5 7 "HalfTickets$Window" "isOpen" "Z") (List.mem_of_getElem? (i := 1) (by decide +kernel))) (fun _ h9 => h9) rfl dX5_become_2 ?_
  rw [hO 0]
  refine xg_put (κ := 5) (ci := 5) (C := RX5) (T := TX5) (N := 7) hx hb hts inX5 tyX5 tyX5_ok nmX5 hown hK O hW hS hτ (by decide) rfl rfl 0 (by decide) (v := (M o 0)) rfl hok (hts (.fieldLink RX5 7 "HalfTickets$Window" "isOpen" "Z") (List.mem_of_getElem? (i := 1) (by decide +kernel))) (fun _ h9 => h9) rfl (ty := .boolean) (by decide +kernel) (xb_nar hok) (xb_fit hok) (Nat.le_of_ble_eq_true rfl) dX5_become_5 (fun H locs hW hS => ?_)
  obtain ⟨M_1, eM_1⟩ : ∃ M9, M9 = xu_p M a 0 (M o 0) := ⟨_, rfl⟩
  rw [← eM_1] at hW
  have hO : ∀ j, M_1 o j = M o j := fun j => (show M_1 o j = M o j by rw [eM_1, xu_n _ (Or.inl (by omega))]).trans (hO j)
  refine lv_aload_n hx hb dX5_become_8 rfl (lv_at hl 0 rfl) ?_
  refine lv_aload_n hx hb dX5_become_9 rfl (lv_at hl 1 rfl) ?_
  refine xg_get (κ := 5) (ci := 5) (C := RX5) (T := TX5) (N := 7) hx hb hts inX5 hown hK hW hτo (by decide) rfl rfl 1 (by decide) (hts (.fieldLink RX5 13 "HalfTickets$Window" "clerks" "I") (List.mem_of_getElem? (i := 2) (by decide +kernel))) (fun _ h9 => h9) rfl dX5_become_10 ?_
  rw [hO 1]
  refine xg_put (κ := 5) (ci := 5) (C := RX5) (T := TX5) (N := 7) hx hb hts inX5 tyX5 tyX5_ok nmX5 hown hK O hW hS hτ (by decide) rfl rfl 1 (by decide) (v := (M o 1)) rfl (xw_okp hW hτ (by decide)) (hts (.fieldLink RX5 13 "HalfTickets$Window" "clerks" "I") (List.mem_of_getElem? (i := 2) (by decide +kernel))) (fun _ h9 => h9) rfl (ty := .int) (by decide +kernel) rfl rfl (Nat.le_of_ble_eq_true rfl) dX5_become_13 (fun H locs hW hS => ?_)
  obtain ⟨M_2, eM_2⟩ : ∃ M9, M9 = xu_p M_1 a 1 (M o 1) := ⟨_, rfl⟩
  rw [← eM_2] at hW
  have hO : ∀ j, M_2 o j = M o j := fun j => (show M_2 o j = M_1 o j by rw [eM_2, xu_n _ (Or.inl (by omega))]).trans (hO j)
  refine lv_aload_n hx hb dX5_become_16 rfl (lv_at hl 0 rfl) ?_
  refine lv_aload_n hx hb dX5_become_17 rfl (lv_at hl 1 rfl) ?_
  refine xg_get (κ := 5) (ci := 5) (C := RX5) (T := TX5) (N := 7) hx hb hts inX5 hown hK hW hτo (by decide) rfl rfl 2 (by decide) (hts (.fieldLink RX5 27 "HalfTickets$Window" "halves" "I") (List.mem_of_getElem? (i := 3) (by decide +kernel))) (fun _ h9 => h9) rfl dX5_become_18 ?_
  rw [hO 2]
  refine xg_put (κ := 5) (ci := 5) (C := RX5) (T := TX5) (N := 7) hx hb hts inX5 tyX5 tyX5_ok nmX5 hown hK O hW hS hτ (by decide) rfl rfl 2 (by decide) (v := (M o 2)) rfl (xw_okp hW hτ (by decide)) (hts (.fieldLink RX5 27 "HalfTickets$Window" "halves" "I") (List.mem_of_getElem? (i := 3) (by decide +kernel))) (fun _ h9 => h9) rfl (ty := .int) (by decide +kernel) rfl rfl (Nat.le_of_ble_eq_true rfl) dX5_become_21 (fun H locs hW hS => ?_)
  obtain ⟨M_3, eM_3⟩ : ∃ M9, M9 = xu_p M_2 a 2 (M o 2) := ⟨_, rfl⟩
  rw [← eM_3] at hW
  have hO : ∀ j, M_3 o j = M o j := fun j => (show M_3 o j = M_2 o j by rw [eM_3, xu_n _ (Or.inl (by omega))]).trans (hO j)
  refine lv_aload_n hx hb dX5_become_24 rfl (lv_at hl 0 rfl) ?_
  refine lv_aload_n hx hb dX5_become_25 rfl (lv_at hl 1 rfl) ?_
  refine xg_get (κ := 5) (ci := 5) (C := RX5) (T := TX5) (N := 7) hx hb hts inX5 hown hK hW hτo (by decide) rfl rfl 3 (by decide) (hts (.fieldLink RX5 30 "HalfTickets$Window" "servings" "I") (List.mem_of_getElem? (i := 4) (by decide +kernel))) (fun _ h9 => h9) rfl dX5_become_26 ?_
  rw [hO 3]
  refine xg_put (κ := 5) (ci := 5) (C := RX5) (T := TX5) (N := 7) hx hb hts inX5 tyX5 tyX5_ok nmX5 hown hK O hW hS hτ (by decide) rfl rfl 3 (by decide) (v := (M o 3)) rfl (xw_okp hW hτ (by decide)) (hts (.fieldLink RX5 30 "HalfTickets$Window" "servings" "I") (List.mem_of_getElem? (i := 4) (by decide +kernel))) (fun _ h9 => h9) rfl (ty := .int) (by decide +kernel) rfl rfl (Nat.le_of_ble_eq_true rfl) dX5_become_29 (fun H locs hW hS => ?_)
  obtain ⟨M_4, eM_4⟩ : ∃ M9, M9 = xu_p M_3 a 3 (M o 3) := ⟨_, rfl⟩
  rw [← eM_4] at hW
  have hO : ∀ j, M_4 o j = M o j := fun j => (show M_4 o j = M_3 o j by rw [eM_4, xu_n _ (Or.inl (by omega))]).trans (hO j)
  refine lv_aload_n hx hb dX5_become_32 rfl (lv_at hl 0 rfl) ?_
  refine lv_aload_n hx hb dX5_become_33 rfl (lv_at hl 1 rfl) ?_
  refine xg_get (κ := 5) (ci := 5) (C := RX5) (T := TX5) (N := 7) hx hb hts inX5 hown hK hW hτo (by decide) rfl rfl 4 (by decide) (hts (.fieldLink RX5 33 "HalfTickets$Window" "sentBack" "I") (List.mem_of_getElem? (i := 5) (by decide +kernel))) (fun _ h9 => h9) rfl dX5_become_34 ?_
  rw [hO 4]
  refine xg_put (κ := 5) (ci := 5) (C := RX5) (T := TX5) (N := 7) hx hb hts inX5 tyX5 tyX5_ok nmX5 hown hK O hW hS hτ (by decide) rfl rfl 4 (by decide) (v := (M o 4)) rfl (xw_okp hW hτ (by decide)) (hts (.fieldLink RX5 33 "HalfTickets$Window" "sentBack" "I") (List.mem_of_getElem? (i := 5) (by decide +kernel))) (fun _ h9 => h9) rfl (ty := .int) (by decide +kernel) rfl rfl (Nat.le_of_ble_eq_true rfl) dX5_become_37 (fun H locs hW hS => ?_)
  obtain ⟨M_5, eM_5⟩ : ∃ M9, M9 = xu_p M_4 a 4 (M o 4) := ⟨_, rfl⟩
  rw [← eM_5] at hW
  have hO : ∀ j, M_5 o j = M o j := fun j => (show M_5 o j = M_4 o j by rw [eM_5, xu_n _ (Or.inl (by omega))]).trans (hO j)
  refine lv_aload_n hx hb dX5_become_40 rfl (lv_at hl 0 rfl) ?_
  refine xg_get (κ := 5) (ci := 5) (C := RX5) (T := TX5) (N := 7) hx hb hts inX5 hown hK hW hτ (by decide) rfl rfl 5 (by decide) (hts (.fieldLink RX5 20 "HalfTickets$Window" "queue" "LHalfTickets$Line;") (List.mem_of_getElem? (i := 6) (by decide +kernel))) (fun _ h9 => h9) rfl dX5_become_41 ?_
  refine lv_aload_n hx hb dX5_become_44 rfl (lv_at hl 1 rfl) ?_
  refine xg_get (κ := 5) (ci := 5) (C := RX5) (T := TX5) (N := 7) hx hb hts inX5 hown hK hW hτo (by decide) rfl rfl 5 (by decide) (hts (.fieldLink RX5 20 "HalfTickets$Window" "queue" "LHalfTickets$Line;") (List.mem_of_getElem? (i := 6) (by decide +kernel))) (fun _ h9 => h9) rfl dX5_become_45 ?_
  refine xc_v (xr_V (As := [.ref (o + 1)]) (rest := []) (κ := 6) ⟨hx, hb, hml, hown, hts⟩ (c_X1_become l O M_5 (a + 1) (o + 1) (O.q hτ) (O.q hτo) (by omega)) (cwV 1 hts gX5_become_X1_become rfl rfl rfl (by decide +kernel) ⟨Nat.le_of_ble_eq_true rfl, Nat.le_of_ble_eq_true rfl⟩) hK hst hnw hS hW (O.q hτ) (by decide) rfl rfl rfl hl.1 rfl (Nat.le_of_ble_eq_true rfl) dX5_become_48 ⟨Nat.zero_le _, Nat.zero_le _⟩) hS (fun M_6 H locs hq_7 hW hS => ?_)
  refine lv_aload_n hx hb dX5_become_51 rfl (lv_at hl 0 rfl) ?_
  refine xg_get (κ := 5) (ci := 5) (C := RX5) (T := TX5) (N := 7) hx hb hts inX5 hown hK hW hτ (by decide) rfl rfl 6 (by decide) (hts (.fieldLink RX5 24 "HalfTickets$Window" "serving" "LHalfTickets$Line;") (List.mem_of_getElem? (i := 7) (by decide +kernel))) (fun _ h9 => h9) rfl dX5_become_52 ?_
  refine lv_aload_n hx hb dX5_become_55 rfl (lv_at hl 1 rfl) ?_
  refine xg_get (κ := 5) (ci := 5) (C := RX5) (T := TX5) (N := 7) hx hb hts inX5 hown hK hW hτo (by decide) rfl rfl 6 (by decide) (hts (.fieldLink RX5 24 "HalfTickets$Window" "serving" "LHalfTickets$Line;") (List.mem_of_getElem? (i := 7) (by decide +kernel))) (fun _ h9 => h9) rfl dX5_become_56 ?_
  refine xc_v (xr_V (As := [.ref (o + 3)]) (rest := []) (κ := 6) ⟨hx, hb, hml, hown, hts⟩ (c_X1_become l O M_6 (a + 3) (o + 3) (O.r hτ) (O.r hτo) (by omega)) (cwV 1 hts gX5_become_X1_become rfl rfl rfl (by decide +kernel) ⟨Nat.le_of_ble_eq_true rfl, Nat.le_of_ble_eq_true rfl⟩) hK hst hnw hS hW (O.r hτ) (by decide) rfl rfl rfl hl.1 rfl (Nat.le_of_ble_eq_true rfl) dX5_become_59 ⟨Nat.zero_le _, Nat.zero_le _⟩) hS (fun M_9 H locs hq_10 hW hS => ?_)
  have hrow : ∀ j, j < 5 → M_5 a j = M o j := by
      intro j h2
      rcases (show j = 0 ∨ j = 1 ∨ j = 2 ∨ j = 3 ∨ j = 4 by omega) with h | h | h | h | h <;> subst h <;> subst eM_5 <;> subst eM_4 <;> subst eM_3 <;> subst eM_2 <;> subst eM_1 <;> simp [xu_p, xr_up, upd]
  have hout : ∀ x, x ≠ a → M_5 x = M x := by
      intro x h
      rw [eM_5, xu_p, xr_n _ _ h, eM_4, xu_p, xr_n _ _ h, eM_3, xu_p, xr_n _ _ h, eM_2, xu_p, xr_n _ _ h, eM_1, xu_p, xr_n _ _ h]
  replace hW : xw_D G g τ (xf_cp M a o 5) H := xw_cg hW (fun x hx => by
      rw [hq_10, hq_7]
      by_cases h1 : x = a
      · right
        rw [h1, hτ, xf_out (by omega), xf_out (by omega), xf_in (by omega), show a - a + o = o by omega]
        refine ⟨?_, fun _ => hok⟩
        show (Sum.inr (5, [_, _, _, _, _, _, _]) : va_E) = .inr (5, [_, _, _, _, _, _, _])
        rw [hrow 0 (by decide), hrow 1 (by decide), hrow 2 (by decide), hrow 3 (by decide), hrow 4 (by decide)]
      · left
        by_cases h2 : a + 3 ≤ x ∧ x < a + 5
        · rw [xf_in (by omega), xf_out (by omega), hout _ (by omega), xf_in (by omega)]
          congr 1
          omega
        · rw [xf_out (by omega)]
          by_cases h3 : a + 1 ≤ x ∧ x < a + 3
          · rw [xf_in (by omega), hout _ (by omega), xf_in (by omega)]
            congr 1
            omega
          · rw [xf_out (by omega), hout _ (by omega), xf_out (by omega)])
  exact W.vret hx hb hr (fun t ht hWm => ⟨⟨(xf_cp M a o 5), rfl, rfl, xw_end ht hW⟩, hS.F ht⟩) hS.2.2 dX5_become_62

set_option maxHeartbeats 4000000 in
set_option maxRecDepth 100000 in
/-- Ministry.become(o) -/
theorem c_X2_become (l : Launch) {G : va_G} {g : Nat → ClassId} {t0 τ : Nat → Nat} {A : Nat → Prop} (O : xk_O τ A) (M : xm_T) (a o : Nat) (hτ : τ a = 1) (hτo : τ o = 1) (hd : a + 82 ≤ o ∨ o + 82 ≤ a) (hN : ∀ k, k < 24 → M (a + 2 * k + 34) 0 = M (o + 2 * k + 34) 0) : Met l yX2_become wsX2_become ({ frames := 3, cells := 0, slots := 0, locals := 100 }) (va_Pc [.ref a, .ref o] (xS_t G g t0 τ A M)) (va_Qv (fun M' => M' = xf_cp M a o 82) (fun M' t => xw_D G g τ M' t.heap) A) 0 0 A := by
  refine Met.ofW (cc := cX2_become) (maxL := 3) (ret := none) (by decide) rfl ?_
  intro p e s m args below meth c s₁ B hml hv
  obtain ⟨rfl, hW, hK, hst, hnw⟩ := hv
  have hx := B.exec
  have hb := B.bytes
  have hr := B.returns
  have hts := atoms_spec (ws := wsX2_become) B.pre
  have hown : s.vm.findClass RX2 = some m.cls := findClass_of_methodNamed B.named
  have hlocks := B.notSynchronized
  have hS : va_S A s.heap s.heap [] := va_S.rf
  have inX2 : ∀ w ∈ u_ws RX2 TX2 7, w ∈ wsX2_become := by decide +kernel
  have hl := lv_entry ([.ref a, .ref o]) (n := 3) (Nat.le_of_ble_eq_true rfl)
  rw [lg_entry_eq]
  generalize (lg_sl ([.ref a, .ref o]) ++ List.replicate (3 - (lg_sl ([.ref a, .ref o])).length) Slot.unset).toArray = ls at hl ⊢
  have hl : lv_has ls 3 [(0, .ref a), (1, .ref o)] := hl
  have hO : ∀ j, M o j = M o j := fun _ => rfl
  refine lv_aload_n hx hb dX2_become_0 rfl (lv_at hl 1 rfl) ?_
  refine xg_get (κ := 1) (ci := 2) (C := RX2) (T := TX2) (N := 7) hx hb hts inX2 hown hK hW hτo (by decide) rfl rfl 0 (by decide) (hts (.fieldLink RX2 18 "HalfTickets$Ministry" "settings" "[I") (List.mem_of_getElem? (i := 1) (by decide +kernel))) (fun _ h9 => h9) rfl dX2_become_1 ?_
  refine lv_iconst (v := (nI 0)) hx hb dX2_become_4 (by decide) ?_
  refine lv_aload_n hx hb dX2_become_5 rfl (lv_at hl 0 rfl) ?_
  refine xg_get (κ := 1) (ci := 2) (C := RX2) (T := TX2) (N := 7) hx hb hts inX2 hown hK hW hτ (by decide) rfl rfl 0 (by decide) (hts (.fieldLink RX2 18 "HalfTickets$Ministry" "settings" "[I") (List.mem_of_getElem? (i := 1) (by decide +kernel))) (fun _ h9 => h9) rfl dX2_become_6 ?_
  refine lv_iconst (v := (nI 0)) hx hb dX2_become_9 (by decide) ?_
  refine va_getsN hx hb hst.1.1 hS hown (va_Nw.use rfl hnw.1) (fun _ h9 => h9) dX2_become_10 ?_
  refine va_tlen hx hb hst.1.2 hS (v := nI 3) rfl dX2_become_13 ?_
  refine xg_cpy (κ := 103) (n := 3) hx hb (by rw [hml]; exact hl.1.symm) hown (hts (.methodLink RX2 39 arraycopyName) (List.mem_of_getElem? (i := 2) (by decide +kernel))) (hts (.native arraycopyName) (List.mem_of_getElem? (i := 3) (by decide +kernel))) (hts (.static arraycopyName) (List.mem_of_getElem? (i := 4) (by decide +kernel))) (hts (.initialized "java/lang/System") (List.mem_of_getElem? (i := 5) (by decide +kernel))) hK O hW hS (O.m1 hτo) (O.m1 hτ) (by decide) (fun _ _ => rfl) (fun _ => trivial) rfl rfl rfl (by decide) (Nat.le_of_ble_eq_true rfl) (by decide +kernel) dX2_become_14 (fun H locs hW hS => ?_)
  obtain ⟨M_1, eM_1⟩ : ∃ M9, M9 = xr_up M (a + 1) (M (o + 1)) := ⟨_, rfl⟩
  rw [← eM_1] at hW
  have hO : ∀ j, M_1 o j = M o j := fun j => (show M_1 o j = M o j by rw [eM_1, xr_n _ _ (by omega)]).trans (hO j)
  refine lv_iconst (v := (nI 0)) hx hb dX2_become_17 (by decide) ?_
  refine lv_istore_n (lv' := [(2, .int (nI 0)), (0, .ref a), (1, .ref o)]) hx hb dX2_become_18 rfl hl (by decide) rfl (fun ls hl => ?_)
  rw [show M_1 = xf_cp M_1 (a + 4) (o + 4) (5 * 0) from (xf_cp_0 _ _ _).symm] at hW
  refine xl_up (σ := Unit) 6 (fun kk zz H locs ls => xw_D G g τ (xf_cp M_1 (a + 4) (o + 4) (5 * kk)) H ∧ va_S A s.heap H locs ∧ lv_has ls 3 [(2, .int (nI kk)), (0, .ref a), (1, .ref o)] ∧ True) (fun z19 H locs ls hI => ?_) (fun k19 z19 H locs ls hk19 hI ih19 => ?_) (k0 := 0) (z0 := ()) (Nat.zero_le _) ⟨hW, hS, lv_sub hl [0, 1, 2] rfl, trivial⟩
  · obtain ⟨hW, hS, hl, hE19⟩ := hI
    refine lv_iload_n hx hb dX2_become_19 rfl (lv_at hl 0 rfl) ?_
    refine lv_bipush (v := (nI 6)) hx hb dX2_become_20 (by decide) ?_
    refine lv_icmp_ge (tgt := 46) hx hb dX2_become_22 (by decide) (fun c_2 => ?_) (fun c_2 => ?_)
    · refine lv_iconst (v := (nI 0)) hx hb dX2_become_46 (by decide) ?_
      refine lv_istore_n (lv' := [(2, .int (nI 0)), (0, .ref a), (1, .ref o)]) hx hb dX2_become_47 rfl hl (by decide) rfl (fun ls hl => ?_)
      rw [show xf_cp M_1 (a + 4) (o + 4) (5 * 6) = xf_cp (xf_cp M_1 (a + 4) (o + 4) (5 * 6)) (a + 34) (o + 34) (2 * 0) from (xf_cp_0 _ _ _).symm] at hW
      refine xl_up (σ := Unit) 24 (fun kk zz H locs ls => xw_D G g τ (xf_cp (xf_cp M_1 (a + 4) (o + 4) (5 * 6)) (a + 34) (o + 34) (2 * kk)) H ∧ va_S A s.heap H locs ∧ lv_has ls 3 [(2, .int (nI kk)), (0, .ref a), (1, .ref o)] ∧ True) (fun z48 H locs ls hI => ?_) (fun k48 z48 H locs ls hk48 hI ih48 => ?_) (k0 := 0) (z0 := ()) (Nat.zero_le _) ⟨hW, hS, lv_sub hl [0, 1, 2] rfl, trivial⟩
      · obtain ⟨hW, hS, hl, hE48⟩ := hI
        have hO : ∀ j, (xf_cp (xf_cp M_1 (a + 4) (o + 4) (5 * 6)) (a + 34) (o + 34) (2 * 24)) o j = M o j := fun j => (show (xf_cp (xf_cp M_1 (a + 4) (o + 4) (5 * 6)) (a + 34) (o + 34) (2 * 24)) o j = M_1 o j by rw [xf_out (by omega), xf_out (by omega)]).trans (hO j)
        refine lv_iload_n hx hb dX2_become_48 rfl (lv_at hl 0 rfl) ?_
        refine lv_bipush (v := (nI 24)) hx hb dX2_become_49 (by decide) ?_
        refine lv_icmp_ge (tgt := 75) hx hb dX2_become_51 (by decide) (fun c_3 => ?_) (fun c_3 => ?_)
        · refine lv_aload_n hx hb dX2_become_75 rfl (lv_at hl 1 rfl) ?_
          refine lv_aload_n hx hb dX2_become_76 rfl (lv_at hl 2 rfl) ?_
          refine xg_get (κ := 1) (ci := 2) (C := RX2) (T := TX2) (N := 7) hx hb hts inX2 hown hK hW hτo (by decide) rfl rfl 3 (by decide) (hts (.fieldLink RX2 52 "HalfTickets$Ministry" "people" "I") (List.mem_of_getElem? (i := 8) (by decide +kernel))) (fun _ h9 => h9) rfl dX2_become_77 ?_
          rw [hO 3]
          refine xg_put (κ := 1) (ci := 2) (C := RX2) (T := TX2) (N := 7) hx hb hts inX2 tyX2 tyX2_ok nmX2 hown hK O hW hS hτ (by decide) rfl rfl 3 (by decide) (v := (M o 3)) rfl trivial (hts (.fieldLink RX2 52 "HalfTickets$Ministry" "people" "I") (List.mem_of_getElem? (i := 8) (by decide +kernel))) (fun _ h9 => h9) rfl (ty := .int) (by decide +kernel) rfl rfl (Nat.le_of_ble_eq_true rfl) dX2_become_80 (fun H locs hW hS => ?_)
          obtain ⟨M_4, eM_4⟩ : ∃ M9, M9 = xu_p (xf_cp (xf_cp M_1 (a + 4) (o + 4) (5 * 6)) (a + 34) (o + 34) (2 * 24)) a 3 (M o 3) := ⟨_, rfl⟩
          rw [← eM_4] at hW
          have hO : ∀ j, M_4 o j = M o j := fun j => (show M_4 o j = (xf_cp (xf_cp M_1 (a + 4) (o + 4) (5 * 6)) (a + 34) (o + 34) (2 * 24)) o j by rw [eM_4, xu_n _ (Or.inl (by omega))]).trans (hO j)
          refine lv_aload_n hx hb dX2_become_83 rfl (lv_at hl 1 rfl) ?_
          refine lv_aload_n hx hb dX2_become_84 rfl (lv_at hl 2 rfl) ?_
          refine xg_get (κ := 1) (ci := 2) (C := RX2) (T := TX2) (N := 7) hx hb hts inX2 hown hK hW hτo (by decide) rfl rfl 4 (by decide) (hts (.fieldLink RX2 56 "HalfTickets$Ministry" "ticks" "I") (List.mem_of_getElem? (i := 9) (by decide +kernel))) (fun _ h9 => h9) rfl dX2_become_85 ?_
          rw [hO 4]
          refine xg_put (κ := 1) (ci := 2) (C := RX2) (T := TX2) (N := 7) hx hb hts inX2 tyX2 tyX2_ok nmX2 hown hK O hW hS hτ (by decide) rfl rfl 4 (by decide) (v := (M o 4)) rfl trivial (hts (.fieldLink RX2 56 "HalfTickets$Ministry" "ticks" "I") (List.mem_of_getElem? (i := 9) (by decide +kernel))) (fun _ h9 => h9) rfl (ty := .int) (by decide +kernel) rfl rfl (Nat.le_of_ble_eq_true rfl) dX2_become_88 (fun H locs hW hS => ?_)
          obtain ⟨M_5, eM_5⟩ : ∃ M9, M9 = xu_p M_4 a 4 (M o 4) := ⟨_, rfl⟩
          rw [← eM_5] at hW
          have hO : ∀ j, M_5 o j = M o j := fun j => (show M_5 o j = M_4 o j by rw [eM_5, xu_n _ (Or.inl (by omega))]).trans (hO j)
          refine lv_aload_n hx hb dX2_become_91 rfl (lv_at hl 1 rfl) ?_
          refine lv_aload_n hx hb dX2_become_92 rfl (lv_at hl 2 rfl) ?_
          refine xg_get (κ := 1) (ci := 2) (C := RX2) (T := TX2) (N := 7) hx hb hts inX2 hown hK hW hτo (by decide) rfl rfl 5 (by decide) (hts (.fieldLink RX2 59 "HalfTickets$Ministry" "lost" "I") (List.mem_of_getElem? (i := 10) (by decide +kernel))) (fun _ h9 => h9) rfl dX2_become_93 ?_
          rw [hO 5]
          refine xg_put (κ := 1) (ci := 2) (C := RX2) (T := TX2) (N := 7) hx hb hts inX2 tyX2 tyX2_ok nmX2 hown hK O hW hS hτ (by decide) rfl rfl 5 (by decide) (v := (M o 5)) rfl trivial (hts (.fieldLink RX2 59 "HalfTickets$Ministry" "lost" "I") (List.mem_of_getElem? (i := 10) (by decide +kernel))) (fun _ h9 => h9) rfl (ty := .int) (by decide +kernel) rfl rfl (Nat.le_of_ble_eq_true rfl) dX2_become_96 (fun H locs hW hS => ?_)
          obtain ⟨M_6, eM_6⟩ : ∃ M9, M9 = xu_p M_5 a 5 (M o 5) := ⟨_, rfl⟩
          rw [← eM_6] at hW
          have hO : ∀ j, M_6 o j = M o j := fun j => (show M_6 o j = M_5 o j by rw [eM_6, xu_n _ (Or.inl (by omega))]).trans (hO j)
          refine lv_aload_n hx hb dX2_become_99 rfl (lv_at hl 1 rfl) ?_
          refine lv_aload_n hx hb dX2_become_100 rfl (lv_at hl 2 rfl) ?_
          refine xg_get (κ := 1) (ci := 2) (C := RX2) (T := TX2) (N := 7) hx hb hts inX2 hown hK hW hτo (by decide) rfl rfl 6 (by decide) (hts (.fieldLink RX2 62 "HalfTickets$Ministry" "brought" "I") (List.mem_of_getElem? (i := 11) (by decide +kernel))) (fun _ h9 => h9) rfl dX2_become_101 ?_
          rw [hO 6]
          refine xg_put (κ := 1) (ci := 2) (C := RX2) (T := TX2) (N := 7) hx hb hts inX2 tyX2 tyX2_ok nmX2 hown hK O hW hS hτ (by decide) rfl rfl 6 (by decide) (v := (M o 6)) rfl trivial (hts (.fieldLink RX2 62 "HalfTickets$Ministry" "brought" "I") (List.mem_of_getElem? (i := 11) (by decide +kernel))) (fun _ h9 => h9) rfl (ty := .int) (by decide +kernel) rfl rfl (Nat.le_of_ble_eq_true rfl) dX2_become_104 (fun H locs hW hS => ?_)
          obtain ⟨M_7, eM_7⟩ : ∃ M9, M9 = xu_p M_6 a 6 (M o 6) := ⟨_, rfl⟩
          rw [← eM_7] at hW
          have hO : ∀ j, M_7 o j = M o j := fun j => (show M_7 o j = M_6 o j by rw [eM_7, xu_n _ (Or.inl (by omega))]).trans (hO j)
          have hout : ∀ x, x ≠ a → M_7 x = (xf_cp (xf_cp M_1 (a + 4) (o + 4) (5 * 6)) (a + 34) (o + 34) (2 * 24)) x := by
              intro x h
              rw [eM_7, xu_p, xr_n _ _ h, eM_6, xu_p, xr_n _ _ h, eM_5, xu_p, xr_n _ _ h, eM_4, xu_p, xr_n _ _ h]
          have hrow : M_7 a 3 = M o 3 ∧ M_7 a 4 = M o 4 ∧ M_7 a 5 = M o 5 ∧ M_7 a 6 = M o 6 := by
              subst eM_7
              subst eM_6
              subst eM_5
              subst eM_4
              refine ⟨?_, ?_, ?_, ?_⟩ <;> simp [xu_p, xr_up, upd]
          replace hW : xw_D G g τ (xf_cp M a o 82) H := xw_cg hW (fun x hx => by
              by_cases h1 : x = a
              · right
                rw [h1, hτ, xf_in (by omega), show a - a + o = o by omega]
                refine ⟨?_, fun _ => trivial⟩
                show (Sum.inr (2, [_, _, _, _, _, _, _]) : va_E) = .inr (2, [_, _, _, _, _, _, _])
                rw [hrow.1, hrow.2.1, hrow.2.2.1, hrow.2.2.2]
              · by_cases h2 : x = a + 2
                · right
                  rw [h2, O.m2 hτ]
                  exact ⟨rfl, fun _ => trivial⟩
                · by_cases h3 : x = a + 3
                  · right
                    rw [h3, O.m3 hτ]
                    exact ⟨rfl, fun _ => trivial⟩
                  · left
                    rw [hout x h1]
                    by_cases h4 : a + 34 ≤ x ∧ x < a + 82
                    · rw [xf_in (by omega), xf_out (by omega), eM_1, xr_n _ _ (by omega), xf_in (by omega)]
                      congr 1
                      omega
                    · rw [xf_out (by omega)]
                      by_cases h5 : a + 4 ≤ x ∧ x < a + 34
                      · rw [xf_in (by omega), eM_1, xr_n _ _ (by omega), xf_in (by omega)]
                        congr 1
                        omega
                      · rw [xf_out (by omega), eM_1]
                        by_cases h6 : x = a + 1
                        · rw [h6, xr_s, xf_in (by omega)]
                          congr 1
                          omega
                        · rw [xr_n _ _ h6, xf_out (by omega)])
          exact W.vret hx hb hr (fun t ht hWm => ⟨⟨(xf_cp M a o 82), rfl, rfl, xw_end ht hW⟩, hS.F ht⟩) hS.2.2 dX2_become_107
        · exact absurd (nI_le (Nat.le_refl _) (by decide)) c_3
      · obtain ⟨hW, hS, hl, hE48⟩ := hI
        refine lv_iload_n hx hb dX2_become_48 rfl (lv_at hl 0 rfl) ?_
        refine lv_bipush (v := (nI 24)) hx hb dX2_become_49 (by decide) ?_
        refine lv_icmp_ge (tgt := 75) hx hb dX2_become_51 (by decide) (fun c_8 => ?_) (fun c_8 => ?_)
        · exact absurd c_8 (nI_ge hk48 (by decide))
        · refine lv_aload_n hx hb dX2_become_54 rfl (lv_at hl 1 rfl) ?_
          refine xg_get (κ := 1) (ci := 2) (C := RX2) (T := TX2) (N := 7) hx hb hts inX2 hown hK hW hτ (by decide) rfl rfl 2 (by decide) (hts (.fieldLink RX2 31 "HalfTickets$Ministry" "persons" "[LHalfTickets$Person;") (List.mem_of_getElem? (i := 7) (by decide +kernel))) (fun _ h9 => h9) rfl dX2_become_55 ?_
          refine lv_iload_n hx hb dX2_become_58 rfl (lv_at hl 0 rfl) ?_
          refine xg_aldP (a := a) hx hb hK hW (O.m3 hτ) k48 rfl hk48 dX2_become_59 ?_
          refine lv_aload_n hx hb dX2_become_60 rfl (lv_at hl 2 rfl) ?_
          refine xg_get (κ := 1) (ci := 2) (C := RX2) (T := TX2) (N := 7) hx hb hts inX2 hown hK hW hτo (by decide) rfl rfl 2 (by decide) (hts (.fieldLink RX2 31 "HalfTickets$Ministry" "persons" "[LHalfTickets$Person;") (List.mem_of_getElem? (i := 7) (by decide +kernel))) (fun _ h9 => h9) rfl dX2_become_61 ?_
          refine lv_iload_n hx hb dX2_become_64 rfl (lv_at hl 0 rfl) ?_
          refine xg_aldP (a := o) hx hb hK hW (O.m3 hτo) k48 rfl hk48 dX2_become_65 ?_
          have hNk : (xf_cp (xf_cp M_1 (a + 4) (o + 4) (5 * 6)) (a + 34) (o + 34) (2 * k48)) (a + 2 * k48 + 34) 0 = (xf_cp (xf_cp M_1 (a + 4) (o + 4) (5 * 6)) (a + 34) (o + 34) (2 * k48)) (o + 2 * k48 + 34) 0 := by rw [xf_out (by omega), xf_out (by omega), xf_out (by omega), xf_out (by omega), eM_1, xr_n _ _ (by omega), xr_n _ _ (by omega)]; exact hN k48 hk48
          refine xc_v (xr_V (As := [.ref (o + 2 * k48 + 34)]) (rest := []) (κ := 8) ⟨hx, hb, hml, hown, hts⟩ (c_X4_become l O (xf_cp (xf_cp M_1 (a + 4) (o + 4) (5 * 6)) (a + 34) (o + 34) (2 * k48)) (a + 2 * k48 + 34) (o + 2 * k48 + 34) (O.p hτ hk48) (O.p hτo hk48) (by omega) hNk) (cwV 1 hts gX2_become_X4_become rfl rfl rfl (by decide +kernel) ⟨Nat.le_of_ble_eq_true rfl, Nat.le_of_ble_eq_true rfl⟩) hK hst hnw hS hW (O.p hτ hk48) (by decide) rfl rfl rfl hl.1 rfl (Nat.le_of_ble_eq_true rfl) dX2_become_66 ⟨Nat.zero_le _, Nat.zero_le _⟩) hS (fun M_9 H locs hq_10 hW hS => ?_)
          rw [xf_cp_add (by omega) (by omega) (by omega), show 2 * k48 + 2 = 2 * (k48 + 1) by omega] at hq_10
          subst hq_10
          refine lv_iinc (v := (nI (k48 + 1))) (lv' := [(2, .int (nI (k48 + 1))), (0, .ref a), (1, .ref o)]) hx hb dX2_become_69 hl (k := 0) rfl ((nI_1 k48)) (by decide) rfl (fun ls hl => ?_)
          refine lv_goto (tgt := 48) hx hb dX2_become_72 (by decide) ?_
          exact ih48 () _ _ _ ⟨hW, hS, lv_sub hl [0, 1, 2] rfl, trivial⟩
    · exact absurd (nI_le (Nat.le_refl _) (by decide)) c_2
  · obtain ⟨hW, hS, hl, hE19⟩ := hI
    refine lv_iload_n hx hb dX2_become_19 rfl (lv_at hl 0 rfl) ?_
    refine lv_bipush (v := (nI 6)) hx hb dX2_become_20 (by decide) ?_
    refine lv_icmp_ge (tgt := 46) hx hb dX2_become_22 (by decide) (fun c_12 => ?_) (fun c_12 => ?_)
    · exact absurd c_12 (nI_ge hk19 (by decide))
    · refine lv_aload_n hx hb dX2_become_25 rfl (lv_at hl 1 rfl) ?_
      refine xg_get (κ := 1) (ci := 2) (C := RX2) (T := TX2) (N := 7) hx hb hts inX2 hown hK hW hτ (by decide) rfl rfl 1 (by decide) (hts (.fieldLink RX2 25 "HalfTickets$Ministry" "windows" "[LHalfTickets$Window;") (List.mem_of_getElem? (i := 6) (by decide +kernel))) (fun _ h9 => h9) rfl dX2_become_26 ?_
      refine lv_iload_n hx hb dX2_become_29 rfl (lv_at hl 0 rfl) ?_
      refine xg_aldW (a := a) hx hb hK hW (O.m2 hτ) k19 rfl hk19 dX2_become_30 ?_
      refine lv_aload_n hx hb dX2_become_31 rfl (lv_at hl 2 rfl) ?_
      refine xg_get (κ := 1) (ci := 2) (C := RX2) (T := TX2) (N := 7) hx hb hts inX2 hown hK hW hτo (by decide) rfl rfl 1 (by decide) (hts (.fieldLink RX2 25 "HalfTickets$Ministry" "windows" "[LHalfTickets$Window;") (List.mem_of_getElem? (i := 6) (by decide +kernel))) (fun _ h9 => h9) rfl dX2_become_32 ?_
      refine lv_iload_n hx hb dX2_become_35 rfl (lv_at hl 0 rfl) ?_
      refine xg_aldW (a := o) hx hb hK hW (O.m2 hτo) k19 rfl hk19 dX2_become_36 ?_
      refine xc_v (xr_V (As := [.ref (o + 5 * k19 + 4)]) (rest := []) (κ := 5) ⟨hx, hb, hml, hown, hts⟩ (c_X5_become l O (xf_cp M_1 (a + 4) (o + 4) (5 * k19)) (a + 5 * k19 + 4) (o + 5 * k19 + 4) (O.w hτ hk19) (O.w hτo hk19) (by omega)) (cwV 1 hts gX2_become_X5_become rfl rfl rfl (by decide +kernel) ⟨Nat.le_of_ble_eq_true rfl, Nat.le_of_ble_eq_true rfl⟩) hK hst hnw hS hW (O.w hτ hk19) (by decide) rfl rfl rfl hl.1 rfl (Nat.le_of_ble_eq_true rfl) dX2_become_37 ⟨Nat.zero_le _, Nat.zero_le _⟩) hS (fun M_13 H locs hq_14 hW hS => ?_)
      rw [xf_cp_add (by omega) (by omega) (by omega), show 5 * k19 + 5 = 5 * (k19 + 1) by omega] at hq_14
      subst hq_14
      refine lv_iinc (v := (nI (k19 + 1))) (lv' := [(2, .int (nI (k19 + 1))), (0, .ref a), (1, .ref o)]) hx hb dX2_become_40 hl (k := 0) rfl ((nI_1 k19)) (by decide) rfl (fun ls hl => ?_)
      refine lv_goto (tgt := 19) hx hb dX2_become_43 (by decide) ?_
      exact ih19 () _ _ _ ⟨hW, hS, lv_sub hl [0, 1, 2] rfl, trivial⟩
