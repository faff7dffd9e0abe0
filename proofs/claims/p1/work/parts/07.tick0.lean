/-- the six states of the history at h have the numbers of the ministry at o -/
def xn_H (M : xm_T) (h o : Nat) : Prop := ∀ i, i < 6 → ∀ k, k < 24 → M (h + 82 * i + 2 + 2 * k + 34) 0 = M (o + 2 * k + 34) 0
/-- what remember does: the history's own cells alone change, next stays within, the numbers stay -/
def xf_rem (M M' : xm_T) (h : Nat) : Prop := (∃ n, n ≤ 6 ∧ M' h 1 = nI n) ∧ (∀ x, x < h ∨ h + 494 ≤ x → M' x = M x) ∧ ∀ i, i < 6 → ∀ k, k < 24 → M' (h + 82 * i + 2 + 2 * k + 34) 0 = M (h + 82 * i + 2 + 2 * k + 34) 0

set_option maxHeartbeats 4000000 in
set_option maxRecDepth 100000 in
/-- History.remember(o) -/
theorem c_X0_remember (l : Launch) {G : va_G} {g : Nat → ClassId} {t0 τ : Nat → Nat} {A : Nat → Prop} (O : xk_O τ A) (M : xm_T) (h o : Nat) (hτ : τ h = 10) (hτo : τ o = 1) (hd : o + 82 ≤ h ∨ h + 494 ≤ o) {n : Nat} (hn : n ≤ 6) (hM : M h 1 = nI n) (hN : xn_H M h o) : Met l yX0_remember wsX0_remember ({ frames := 4, cells := 0, slots := 0, locals := 130 }) (va_Pc [.ref h, .ref o] (xS_t G g t0 τ A M)) (va_Qv (fun M' => xf_rem M M' h) (fun M' t => xw_D G g τ M' t.heap) A) 0 0 A := by
  refine Met.ofW (cc := cX0_remember) (maxL := 2) (ret := none) (by decide) rfl ?_
  intro p e s m args below meth c s₁ B hml hv
  obtain ⟨rfl, hW, hK, hst, hnw⟩ := hv
  have hx := B.exec
  have hb := B.bytes
  have hr := B.returns
  have hts := atoms_spec (ws := wsX0_remember) B.pre
  have hown : s.vm.findClass RX0 = some m.cls := findClass_of_methodNamed B.named
  have hlocks := B.notSynchronized
  have hS : va_S A s.heap s.heap [] := va_S.rf
  have inX0 : ∀ w ∈ u_ws RX0 TX0 3, w ∈ wsX0_remember := by decide +kernel
  have hl := lv_entry ([.ref h, .ref o]) (n := 2) (Nat.le_of_ble_eq_true rfl)
  rw [lg_entry_eq]
  generalize (lg_sl ([.ref h, .ref o]) ++ List.replicate (2 - (lg_sl ([.ref h, .ref o])).length) Slot.unset).toArray = ls at hl ⊢
  have hl : lv_has ls 2 [(0, .ref h), (1, .ref o)] := hl
  refine lv_aload_n hx hb dX0_remember_0 rfl (lv_at hl 0 rfl) ?_
  refine xg_get (κ := 10) (ci := 0) (C := RX0) (T := TX0) (N := 3) hx hb hts inX0 hown hK hW hτ (by decide) rfl rfl 1 (by decide) (hts (.fieldLink RX0 22 "HalfTickets$History" "next" "I") (List.mem_of_getElem? (i := 1) (by decide +kernel))) (fun _ h9 => h9) rfl dX0_remember_1 ?_
  refine lv_aload_n hx hb dX0_remember_4 rfl (lv_at hl 0 rfl) ?_
  refine xg_get (κ := 10) (ci := 0) (C := RX0) (T := TX0) (N := 3) hx hb hts inX0 hown hK hW hτ (by decide) rfl rfl 0 (by decide) (hts (.fieldLink RX0 11 "HalfTickets$History" "states" "[LHalfTickets$Ministry;") (List.mem_of_getElem? (i := 2) (by decide +kernel))) (fun _ h9 => h9) rfl dX0_remember_5 ?_
  refine xg_alen (κ := 11) (v := nI 6) hx hb hK hW (O.h1 hτ) (by decide) rfl 5 rfl rfl dX0_remember_8 ?_
  refine lv_icmp_lt (tgt := 17) hx hb dX0_remember_9 (by decide) (fun c_1 => ?_) (fun c_1 => ?_)
  · have hn6 : n < 6 := by rw [hM] at c_1; exact (nI_ltI (by omega) (by omega)).mp c_1
    obtain ⟨j, hj, hMj⟩ : ∃ j, j < 6 ∧ M h 1 = nI j := ⟨n, hn6, hM⟩
    have hx1 : ∀ x, x ≠ h → M x = M x := fun _ _ => rfl
    refine lv_aload_n hx hb dX0_remember_17 rfl (lv_at hl 0 rfl) ?_
    refine xg_get (κ := 10) (ci := 0) (C := RX0) (T := TX0) (N := 3) hx hb hts inX0 hown hK hW hτ (by decide) rfl rfl 0 (by decide) (hts (.fieldLink RX0 11 "HalfTickets$History" "states" "[LHalfTickets$Ministry;") (List.mem_of_getElem? (i := 2) (by decide +kernel))) (fun _ h9 => h9) rfl dX0_remember_18 ?_
    refine lv_aload_n hx hb dX0_remember_21 rfl (lv_at hl 0 rfl) ?_
    refine xg_get (κ := 10) (ci := 0) (C := RX0) (T := TX0) (N := 3) hx hb hts inX0 hown hK hW hτ (by decide) rfl rfl 1 (by decide) (hts (.fieldLink RX0 22 "HalfTickets$History" "next" "I") (List.mem_of_getElem? (i := 1) (by decide +kernel))) (fun _ h9 => h9) rfl dX0_remember_22 ?_
    refine xg_aldH (a := h) hx hb hK hW (O.h1 hτ) j hMj hj dX0_remember_25 ?_
    refine lv_aload_n hx hb dX0_remember_26 rfl (lv_at hl 1 rfl) ?_
    have hNj : ∀ k, k < 24 → M (h + 82 * j + 2 + 2 * k + 34) 0 = M (o + 2 * k + 34) 0 := fun k hk => by rw [hx1 _ (by omega), hx1 _ (by omega)]; exact hN j hj k hk
    refine xc_v (xr_V (As := [.ref o]) (rest := []) (κ := 1) ⟨hx, hb, hml, hown, hts⟩ (c_X2_become l O M (h + 82 * j + 2) o (O.hm hτ hj) hτo (by omega) hNj) (cwV 1 hts gX0_remember_X2_become rfl rfl rfl (by decide +kernel) ⟨Nat.le_of_ble_eq_true rfl, Nat.le_of_ble_eq_true rfl⟩) hK hst hnw hS hW (O.hm hτ hj) (by decide) rfl rfl rfl hl.1 rfl (Nat.le_of_ble_eq_true rfl) dX0_remember_27 ⟨Nat.zero_le _, Nat.zero_le _⟩) hS (fun M_2 H locs hq_3 hW hS => ?_)
    have hc1 : M_2 h = M h := by rw [hq_3]; exact xf_out (by omega)
    have hc2 : ∀ x, x < h ∨ h + 494 ≤ x → M_2 x = M x := fun x hx => (show M_2 x = M x by rw [hq_3, xf_out (by omega)]).trans (hx1 x (by omega))
    have hc3 : ∀ i, i < 6 → ∀ k, k < 24 → M_2 (h + 82 * i + 2 + 2 * k + 34) 0 = M (h + 82 * i + 2 + 2 * k + 34) 0 := fun i hi k hk => by
        rw [hq_3]
        by_cases hij : i = j
        · subst hij
          rw [xf_in (by omega), hx1 _ (by omega), hN i hi k hk]
          congr 1
          omega
        · exact (show xf_cp M (h + 82 * j + 2) o 82 (h + 82 * i + 2 + 2 * k + 34) 0 = M (h + 82 * i + 2 + 2 * k + 34) 0 by rw [xf_out (by omega)]).trans (congrFun (hx1 _ (by omega)) 0)
    refine lv_aload_n hx hb dX0_remember_30 rfl (lv_at hl 0 rfl) ?_
    refine lv_dup hx hb dX0_remember_31 rfl ?_
    refine xg_get (κ := 10) (ci := 0) (C := RX0) (T := TX0) (N := 3) hx hb hts inX0 hown hK hW hτ (by decide) rfl rfl 1 (by decide) (hts (.fieldLink RX0 22 "HalfTickets$History" "next" "I") (List.mem_of_getElem? (i := 1) (by decide +kernel))) (fun _ h9 => h9) rfl dX0_remember_32 ?_
    refine lv_iconst (v := (nI 1)) hx hb dX0_remember_35 (by decide) ?_
    refine lv_iadd hx hb dX0_remember_36 ?_
    refine xg_put (κ := 10) (ci := 0) (C := RX0) (T := TX0) (N := 3) hx hb hts inX0 tyX0 tyX0_ok nmX0 hown hK O hW hS hτ (by decide) rfl rfl 1 (by decide) (v := ((M_2 h 1) + (nI 1))) rfl trivial (hts (.fieldLink RX0 22 "HalfTickets$History" "next" "I") (List.mem_of_getElem? (i := 1) (by decide +kernel))) (fun _ h9 => h9) rfl (ty := .int) (by decide +kernel) rfl rfl (Nat.le_of_ble_eq_true rfl) dX0_remember_37 (fun H locs hW hS => ?_)
    obtain ⟨M_5, eM_5⟩ : ∃ M9, M9 = xu_p M_2 h 1 ((M_2 h 1) + (nI 1)) := ⟨_, rfl⟩
    rw [← eM_5] at hW
    refine lv_aload_n hx hb dX0_remember_40 rfl (lv_at hl 0 rfl) ?_
    refine lv_aload_n hx hb dX0_remember_41 rfl (lv_at hl 0 rfl) ?_
    refine xg_get (κ := 10) (ci := 0) (C := RX0) (T := TX0) (N := 3) hx hb hts inX0 hown hK hW hτ (by decide) rfl rfl 2 (by decide) (hts (.fieldLink RX0 18 "HalfTickets$History" "kept" "I") (List.mem_of_getElem? (i := 3) (by decide +kernel))) (fun _ h9 => h9) rfl dX0_remember_42 ?_
    refine lv_iconst (v := (nI 1)) hx hb dX0_remember_45 (by decide) ?_
    refine lv_iadd hx hb dX0_remember_46 ?_
    refine lv_aload_n hx hb dX0_remember_47 rfl (lv_at hl 0 rfl) ?_
    refine xg_get (κ := 10) (ci := 0) (C := RX0) (T := TX0) (N := 3) hx hb hts inX0 hown hK hW hτ (by decide) rfl rfl 0 (by decide) (hts (.fieldLink RX0 11 "HalfTickets$History" "states" "[LHalfTickets$Ministry;") (List.mem_of_getElem? (i := 2) (by decide +kernel))) (fun _ h9 => h9) rfl dX0_remember_48 ?_
    refine xg_alen (κ := 11) (v := nI 6) hx hb hK hW (O.h1 hτ) (by decide) rfl 5 rfl rfl dX0_remember_51 ?_
    refine va_mmin hx hb (by rw [hml]; exact hl.1.symm) hown (hts (.methodLink RX0 29 Lib.Math.min.name) (List.mem_of_getElem? (i := 4) (by decide +kernel))) (hts (.static Lib.Math.min.name) (List.mem_of_getElem? (i := 5) (by decide +kernel))) (hts (.initialized "java/lang/Math") (List.mem_of_getElem? (i := 6) (by decide +kernel))) (hts (.code Lib.Math.min.name Lib.Math.min.code 2 (some .int)) (List.mem_of_getElem? (i := 7) (by decide +kernel))) (Nat.le_of_ble_eq_true rfl) (Nat.le_of_ble_eq_true rfl) (Nat.zero_le _) (Nat.zero_le _) dX0_remember_52 ?_
    refine xg_put (κ := 10) (ci := 0) (C := RX0) (T := TX0) (N := 3) hx hb hts inX0 tyX0 tyX0_ok nmX0 hown hK O hW hS hτ (by decide) rfl rfl 2 (by decide) (v := (if (nI 6) < ((M_5 h 2) + (nI 1)) then (nI 6) else ((M_5 h 2) + (nI 1)))) rfl trivial (hts (.fieldLink RX0 18 "HalfTickets$History" "kept" "I") (List.mem_of_getElem? (i := 3) (by decide +kernel))) (fun _ h9 => h9) rfl (ty := .int) (by decide +kernel) rfl rfl (Nat.le_of_ble_eq_true rfl) dX0_remember_55 (fun H locs hW hS => ?_)
    obtain ⟨M_6, eM_6⟩ : ∃ M9, M9 = xu_p M_5 h 2 (if (nI 6) < ((M_5 h 2) + (nI 1)) then (nI 6) else ((M_5 h 2) + (nI 1))) := ⟨_, rfl⟩
    rw [← eM_6] at hW
    have hpost : xf_rem M M_6 h := by
        have g1 : ∀ x, x ≠ h → M_6 x = M_2 x := fun x hx => by rw [eM_6, xu_p, xr_n _ _ hx, eM_5, xu_p, xr_n _ _ hx]
        refine ⟨⟨j + 1, by omega, ?_⟩, fun x hx => ?_, fun i hi k hk => ?_⟩
        · rw [eM_6, xu_n _ (Or.inr (by decide)), eM_5, xu_s, hc1, hMj]
          exact nI_1 j
        · rw [g1 x (by omega)]
          exact hc2 x hx
        · rw [g1 _ (by omega)]
          exact hc3 i hi k hk
    exact W.vret hx hb hr (fun t ht hWm => ⟨⟨M_6, rfl, hpost, xw_end ht hW⟩, hS.F ht⟩) hS.2.2 dX0_remember_58
  · refine lv_aload_n hx hb dX0_remember_12 rfl (lv_at hl 0 rfl) ?_
    refine lv_iconst (v := (nI 0)) hx hb dX0_remember_13 (by decide) ?_
    refine xg_put (κ := 10) (ci := 0) (C := RX0) (T := TX0) (N := 3) hx hb hts inX0 tyX0 tyX0_ok nmX0 hown hK O hW hS hτ (by decide) rfl rfl 1 (by decide) (v := (nI 0)) rfl trivial (hts (.fieldLink RX0 22 "HalfTickets$History" "next" "I") (List.mem_of_getElem? (i := 1) (by decide +kernel))) (fun _ h9 => h9) rfl (ty := .int) (by decide +kernel) rfl rfl (Nat.le_of_ble_eq_true rfl) dX0_remember_14 (fun H locs hW hS => ?_)
    obtain ⟨M_7, eM_7⟩ : ∃ M9, M9 = xu_p M h 1 (nI 0) := ⟨_, rfl⟩
    rw [← eM_7] at hW
    obtain ⟨j, hj, hMj⟩ : ∃ j, j < 6 ∧ M_7 h 1 = nI j := ⟨0, by decide, by rw [eM_7]; exact xu_s _ _ _ _⟩
    have hx1 : ∀ x, x ≠ h → M_7 x = M x := fun x hx => by rw [eM_7]; exact xr_n _ _ hx
    refine lv_aload_n hx hb dX0_remember_17 rfl (lv_at hl 0 rfl) ?_
    refine xg_get (κ := 10) (ci := 0) (C := RX0) (T := TX0) (N := 3) hx hb hts inX0 hown hK hW hτ (by decide) rfl rfl 0 (by decide) (hts (.fieldLink RX0 11 "HalfTickets$History" "states" "[LHalfTickets$Ministry;") (List.mem_of_getElem? (i := 2) (by decide +kernel))) (fun _ h9 => h9) rfl dX0_remember_18 ?_
    refine lv_aload_n hx hb dX0_remember_21 rfl (lv_at hl 0 rfl) ?_
    refine xg_get (κ := 10) (ci := 0) (C := RX0) (T := TX0) (N := 3) hx hb hts inX0 hown hK hW hτ (by decide) rfl rfl 1 (by decide) (hts (.fieldLink RX0 22 "HalfTickets$History" "next" "I") (List.mem_of_getElem? (i := 1) (by decide +kernel))) (fun _ h9 => h9) rfl dX0_remember_22 ?_
    refine xg_aldH (a := h) hx hb hK hW (O.h1 hτ) j hMj hj dX0_remember_25 ?_
    refine lv_aload_n hx hb dX0_remember_26 rfl (lv_at hl 1 rfl) ?_
    have hNj : ∀ k, k < 24 → M_7 (h + 82 * j + 2 + 2 * k + 34) 0 = M_7 (o + 2 * k + 34) 0 := fun k hk => by rw [hx1 _ (by omega), hx1 _ (by omega)]; exact hN j hj k hk
    refine xc_v (xr_V (As := [.ref o]) (rest := []) (κ := 1) ⟨hx, hb, hml, hown, hts⟩ (c_X2_become l O M_7 (h + 82 * j + 2) o (O.hm hτ hj) hτo (by omega) hNj) (cwV 1 hts gX0_remember_X2_become rfl rfl rfl (by decide +kernel) ⟨Nat.le_of_ble_eq_true rfl, Nat.le_of_ble_eq_true rfl⟩) hK hst hnw hS hW (O.hm hτ hj) (by decide) rfl rfl rfl hl.1 rfl (Nat.le_of_ble_eq_true rfl) dX0_remember_27 ⟨Nat.zero_le _, Nat.zero_le _⟩) hS (fun M_8 H locs hq_9 hW hS => ?_)
    have hc1 : M_8 h = M_7 h := by rw [hq_9]; exact xf_out (by omega)
    have hc2 : ∀ x, x < h ∨ h + 494 ≤ x → M_8 x = M x := fun x hx => (show M_8 x = M_7 x by rw [hq_9, xf_out (by omega)]).trans (hx1 x (by omega))
    have hc3 : ∀ i, i < 6 → ∀ k, k < 24 → M_8 (h + 82 * i + 2 + 2 * k + 34) 0 = M (h + 82 * i + 2 + 2 * k + 34) 0 := fun i hi k hk => by
        rw [hq_9]
        by_cases hij : i = j
        · subst hij
          rw [xf_in (by omega), hx1 _ (by omega), hN i hi k hk]
          congr 1
          omega
        · exact (show xf_cp M_7 (h + 82 * j + 2) o 82 (h + 82 * i + 2 + 2 * k + 34) 0 = M_7 (h + 82 * i + 2 + 2 * k + 34) 0 by rw [xf_out (by omega)]).trans (congrFun (hx1 _ (by omega)) 0)
    refine lv_aload_n hx hb dX0_remember_30 rfl (lv_at hl 0 rfl) ?_
    refine lv_dup hx hb dX0_remember_31 rfl ?_
    refine xg_get (κ := 10) (ci := 0) (C := RX0) (T := TX0) (N := 3) hx hb hts inX0 hown hK hW hτ (by decide) rfl rfl 1 (by decide) (hts (.fieldLink RX0 22 "HalfTickets$History" "next" "I") (List.mem_of_getElem? (i := 1) (by decide +kernel))) (fun _ h9 => h9) rfl dX0_remember_32 ?_
    refine lv_iconst (v := (nI 1)) hx hb dX0_remember_35 (by decide) ?_
    refine lv_iadd hx hb dX0_remember_36 ?_
    refine xg_put (κ := 10) (ci := 0) (C := RX0) (T := TX0) (N := 3) hx hb hts inX0 tyX0 tyX0_ok nmX0 hown hK O hW hS hτ (by decide) rfl rfl 1 (by decide) (v := ((M_8 h 1) + (nI 1))) rfl trivial (hts (.fieldLink RX0 22 "HalfTickets$History" "next" "I") (List.mem_of_getElem? (i := 1) (by decide +kernel))) (fun _ h9 => h9) rfl (ty := .int) (by decide +kernel) rfl rfl (Nat.le_of_ble_eq_true rfl) dX0_remember_37 (fun H locs hW hS => ?_)
    obtain ⟨M_11, eM_11⟩ : ∃ M9, M9 = xu_p M_8 h 1 ((M_8 h 1) + (nI 1)) := ⟨_, rfl⟩
    rw [← eM_11] at hW
    refine lv_aload_n hx hb dX0_remember_40 rfl (lv_at hl 0 rfl) ?_
    refine lv_aload_n hx hb dX0_remember_41 rfl (lv_at hl 0 rfl) ?_
    refine xg_get (κ := 10) (ci := 0) (C := RX0) (T := TX0) (N := 3) hx hb hts inX0 hown hK hW hτ (by decide) rfl rfl 2 (by decide) (hts (.fieldLink RX0 18 "HalfTickets$History" "kept" "I") (List.mem_of_getElem? (i := 3) (by decide +kernel))) (fun _ h9 => h9) rfl dX0_remember_42 ?_
    refine lv_iconst (v := (nI 1)) hx hb dX0_remember_45 (by decide) ?_
    refine lv_iadd hx hb dX0_remember_46 ?_
    refine lv_aload_n hx hb dX0_remember_47 rfl (lv_at hl 0 rfl) ?_
    refine xg_get (κ := 10) (ci := 0) (C := RX0) (T := TX0) (N := 3) hx hb hts inX0 hown hK hW hτ (by decide) rfl rfl 0 (by decide) (hts (.fieldLink RX0 11 "HalfTickets$History" "states" "[LHalfTickets$Ministry;") (List.mem_of_getElem? (i := 2) (by decide +kernel))) (fun _ h9 => h9) rfl dX0_remember_48 ?_
    refine xg_alen (κ := 11) (v := nI 6) hx hb hK hW (O.h1 hτ) (by decide) rfl 5 rfl rfl dX0_remember_51 ?_
    refine va_mmin hx hb (by rw [hml]; exact hl.1.symm) hown (hts (.methodLink RX0 29 Lib.Math.min.name) (List.mem_of_getElem? (i := 4) (by decide +kernel))) (hts (.static Lib.Math.min.name) (List.mem_of_getElem? (i := 5) (by decide +kernel))) (hts (.initialized "java/lang/Math") (List.mem_of_getElem? (i := 6) (by decide +kernel))) (hts (.code Lib.Math.min.name Lib.Math.min.code 2 (some .int)) (List.mem_of_getElem? (i := 7) (by decide +kernel))) (Nat.le_of_ble_eq_true rfl) (Nat.le_of_ble_eq_true rfl) (Nat.zero_le _) (Nat.zero_le _) dX0_remember_52 ?_
    refine xg_put (κ := 10) (ci := 0) (C := RX0) (T := TX0) (N := 3) hx hb hts inX0 tyX0 tyX0_ok nmX0 hown hK O hW hS hτ (by decide) rfl rfl 2 (by decide) (v := (if (nI 6) < ((M_11 h 2) + (nI 1)) then (nI 6) else ((M_11 h 2) + (nI 1)))) rfl trivial (hts (.fieldLink RX0 18 "HalfTickets$History" "kept" "I") (List.mem_of_getElem? (i := 3) (by decide +kernel))) (fun _ h9 => h9) rfl (ty := .int) (by decide +kernel) rfl rfl (Nat.le_of_ble_eq_true rfl) dX0_remember_55 (fun H locs hW hS => ?_)
    obtain ⟨M_12, eM_12⟩ : ∃ M9, M9 = xu_p M_11 h 2 (if (nI 6) < ((M_11 h 2) + (nI 1)) then (nI 6) else ((M_11 h 2) + (nI 1))) := ⟨_, rfl⟩
    rw [← eM_12] at hW
    have hpost : xf_rem M M_12 h := by
        have g1 : ∀ x, x ≠ h → M_12 x = M_8 x := fun x hx => by rw [eM_12, xu_p, xr_n _ _ hx, eM_11, xu_p, xr_n _ _ hx]
        refine ⟨⟨j + 1, by omega, ?_⟩, fun x hx => ?_, fun i hi k hk => ?_⟩
        · rw [eM_12, xu_n _ (Or.inr (by decide)), eM_11, xu_s, hc1, hMj]
          exact nI_1 j
        · rw [g1 x (by omega)]
          exact hc2 x hx
        · rw [g1 _ (by omega)]
          exact hc3 i hi k hk
    exact W.vret hx hb hr (fun t ht hWm => ⟨⟨M_12, rfl, hpost, xw_end ht hW⟩, hS.F ht⟩) hS.2.2 dX0_remember_58

/-- nobody stands or is served anywhere, nobody has come -/
def xe_E (M : xm_T) (a : Nat) : Prop := (∀ w, w < 6 → M (a + 5 * w + 5) 1 = nI 0 ∧ M (a + 5 * w + 7) 1 = nI 0) ∧ ∀ k, k < 24 → M (a + 2 * k + 34) 3 = nI 4
/-- the same but for the ticks, and who came in this tick -/
def xe_R (a : Nat) (M M' : xm_T) : Prop := ∀ x j, (x = a ∧ j = 4) ∨ (j = 11 ∧ ∃ k, k < 24 ∧ x = a + 2 * k + 34) ∨ M' x j = M x j
theorem xe_rf (a : Nat) (M : xm_T) : xe_R a M M := fun _ _ => Or.inr (Or.inr rfl)
theorem xe_tr {a : Nat} {M M1 M2 : xm_T} (h : xe_R a M M1) (h2 : xe_R a M1 M2) : xe_R a M M2 := fun x j => by
  rcases h2 x j with q | q | q
  · exact Or.inl q
  · exact Or.inr (Or.inl q)
  · rcases h x j with r | r | r
    · exact Or.inl r
    · exact Or.inr (Or.inl r)
    · exact Or.inr (Or.inr (q.trans r))
theorem xe_at {a : Nat} {M M' : xm_T} (h : xe_R a M M') {x j : Nat} (hj : j ≠ 11) (hx : x ≠ a ∨ j ≠ 4) : M' x j = M x j := by
  rcases h x j with ⟨q1, q2⟩ | ⟨q, -⟩ | q
  · rcases hx with hx | hx
    · exact absurd q1 hx
    · exact absurd q2 hx
  · exact absurd q hj
  · exact q
theorem xe_keep {a : Nat} {M M' : xm_T} (h : xe_R a M M') (hE : xe_E M a) : xe_E M' a :=
  ⟨fun w hw => ⟨by rw [xe_at h (by decide) (Or.inr (by decide))]; exact (hE.1 w hw).1, by rw [xe_at h (by decide) (Or.inr (by decide))]; exact (hE.1 w hw).2⟩, fun k hk => by rw [xe_at h (by decide) (Or.inr (by decide))]; exact hE.2 k hk⟩
theorem xf_at_0 {M : xm_T} {q : Nat} (h : M q 1 = nI 0) (i : Int32) : xf_at M q i = -6 := by
  unfold xf_at
  by_cases h1 : i < 0
  · rw [if_pos h1]
  · rw [if_neg h1, h, if_pos (by rw [nI_0]; exact Int32.not_lt.mp h1)]
theorem xf_per_6 (M : xm_T) (a : Nat) : xf_per M a (-6) = none := by
  unfold xf_per
  rw [if_pos (by decide)]

set_option maxHeartbeats 4000000 in
set_option maxRecDepth 100000 in
/-- serveAt(v), nobody is served -/
theorem ce_X2_serveAt (l : Launch) {G : va_G} {g : Nat → ClassId} {t0 τ : Nat → Nat} {A : Nat → Prop} (O : xk_O τ A) (M : xm_T) (a v : Nat) (hτ : τ a = 1) (hv5 : τ v = 5) (hE : M (v + 3) 1 = nI 0) : Met l yX2_serveAt wsX2_serveAt ({ frames := 1, cells := 0, slots := 0, locals := 30 }) (va_Pc [.ref a, .ref v] (xS_t G g t0 τ A M)) (va_Qv (fun M' => M' = M) (fun M' t => xw_D G g τ M' t.heap) A) 0 0 A := by
  refine Met.ofW (cc := cX2_serveAt) (maxL := 6) (ret := none) (by decide) rfl ?_
  intro p e s m args below meth c s₁ B hml hv
  obtain ⟨rfl, hW, hK, hst, hnw⟩ := hv
  have hx := B.exec
  have hb := B.bytes
  have hr := B.returns
  have hts := atoms_spec (ws := wsX2_serveAt) B.pre
  have hown : s.vm.findClass RX2 = some m.cls := findClass_of_methodNamed B.named
  have hlocks := B.notSynchronized
  have hS : va_S A s.heap s.heap [] := va_S.rf
  have inX2 : ∀ w ∈ u_ws RX2 TX2 7, w ∈ wsX2_serveAt := by decide +kernel
  have inX4 : ∀ w ∈ u_ws RX4 TX4 12, w ∈ wsX2_serveAt := by decide +kernel
  have inX5 : ∀ w ∈ u_ws RX5 TX5 7, w ∈ wsX2_serveAt := by decide +kernel
  have hl := lv_entry ([.ref a, .ref v]) (n := 6) (Nat.le_of_ble_eq_true rfl)
  rw [lg_entry_eq]
  generalize (lg_sl ([.ref a, .ref v]) ++ List.replicate (6 - (lg_sl ([.ref a, .ref v])).length) Slot.unset).toArray = ls at hl ⊢
  have hl : lv_has ls 6 [(0, .ref a), (1, .ref v)] := hl
  refine lv_iconst (v := (nI 0)) hx hb dX2_serveAt_0 (by decide) ?_
  refine lv_istore_n (lv' := [(2, .int (nI 0)), (0, .ref a), (1, .ref v)]) hx hb dX2_serveAt_1 rfl hl (by decide) rfl (fun ls hl => ?_)
  refine lv_aload_n hx hb dX2_serveAt_2 rfl (lv_at hl 2 rfl) ?_
  refine xg_get (κ := 5) (ci := 5) (C := RX5) (T := TX5) (N := 7) hx hb hts inX5 hown hK hW hv5 (by decide) rfl rfl 6 (by decide) (hts (.fieldLink RX2 150 "HalfTickets$Window" "serving" "LHalfTickets$Line;") (List.mem_of_getElem? (i := 1) (by decide +kernel))) (fun _ h9 => h9) rfl dX2_serveAt_3 ?_
  refine xc_i (xr_V (As := []) (rest := []) (κ := 6) ⟨hx, hb, hml, hown, hts⟩ (c_X1_length l O M (v + 3) (O.r hv5)) (cwV 0 hts gX2_serveAt_X1_length rfl rfl rfl (by decide +kernel) ⟨Nat.le_of_ble_eq_true rfl, Nat.le_of_ble_eq_true rfl⟩) hK hst hnw hS hW (O.r hv5) (by decide) rfl rfl rfl hl.1 rfl (Nat.le_of_ble_eq_true rfl) dX2_serveAt_6 ⟨Nat.zero_le _, Nat.zero_le _⟩) hS (fun r_3 M_1 H locs hq_2 hW hS => ?_)
  obtain ⟨hq_2a, hq_2b⟩ := hq_2
  rw [hq_2b] at hW
  rw [hq_2a]
  refine lv_istore_n (lv' := [(3, .int (M (v + 3) 1)), (2, .int (nI 0)), (0, .ref a), (1, .ref v)]) hx hb dX2_serveAt_9 rfl hl (by decide) rfl (fun ls hl => ?_)
  refine lv_iconst (v := (nI 0)) hx hb dX2_serveAt_10 (by decide) ?_
  refine lv_istore (lv' := [(4, .int (nI 0)), (3, .int (M (v + 3) 1)), (2, .int (nI 0)), (0, .ref a), (1, .ref v)]) hx hb dX2_serveAt_11 hl (by decide) rfl (fun ls hl => ?_)
  refine lv_iload hx hb dX2_serveAt_13 (lv_at hl 0 rfl) ?_
  refine lv_iload_n hx hb dX2_serveAt_15 rfl (lv_at hl 1 rfl) ?_
  refine lv_icmp_ge (tgt := 99) hx hb dX2_serveAt_16 (by decide) (fun c_4 => ?_) (fun c_4 => ?_)
  · exact W.vret hx hb hr (fun t ht hWm => ⟨⟨M, rfl, rfl, xw_end ht hW⟩, hS.F ht⟩) hS.2.2 dX2_serveAt_99
  · exact absurd (by rw [hE]; exact nI_le (Nat.le_refl _) (by decide)) c_4

set_option maxHeartbeats 4000000 in
set_option maxRecDepth 100000 in
/-- callAt(v), nobody stands -/
theorem ce_X2_callAt (l : Launch) {G : va_G} {g : Nat → ClassId} {t0 τ : Nat → Nat} {A : Nat → Prop} (O : xk_O τ A) (M : xm_T) (a v : Nat) (hτ : τ a = 1) (hv5 : τ v = 5) (hE1 : M (v + 1) 1 = nI 0) (hE3 : M (v + 3) 1 = nI 0) : Met l yX2_callAt wsX2_callAt ({ frames := 1, cells := 0, slots := 0, locals := 30 }) (va_Pc [.ref a, .ref v] (xS_t G g t0 τ A M)) (va_Qv (fun M' => M' = M) (fun M' t => xw_D G g τ M' t.heap) A) 0 0 A := by
  refine Met.ofW (cc := cX2_callAt) (maxL := 5) (ret := none) (by decide) rfl ?_
  intro p e s m args below meth c s₁ B hml hv
  obtain ⟨rfl, hW, hK, hst, hnw⟩ := hv
  have hx := B.exec
  have hb := B.bytes
  have hr := B.returns
  have hts := atoms_spec (ws := wsX2_callAt) B.pre
  have hown : s.vm.findClass RX2 = some m.cls := findClass_of_methodNamed B.named
  have hlocks := B.notSynchronized
  have hS : va_S A s.heap s.heap [] := va_S.rf
  have inX4 : ∀ w ∈ u_ws RX4 TX4 12, w ∈ wsX2_callAt := by decide +kernel
  have inX5 : ∀ w ∈ u_ws RX5 TX5 7, w ∈ wsX2_callAt := by decide +kernel
  have hl := lv_entry ([.ref a, .ref v]) (n := 5) (Nat.le_of_ble_eq_true rfl)
  rw [lg_entry_eq]
  generalize (lg_sl ([.ref a, .ref v]) ++ List.replicate (5 - (lg_sl ([.ref a, .ref v])).length) Slot.unset).toArray = ls at hl ⊢
  have hl : lv_has ls 5 [(0, .ref a), (1, .ref v)] := hl
  refine lv_aload_n hx hb dX2_callAt_0 rfl (lv_at hl 1 rfl) ?_
  refine xg_get (κ := 5) (ci := 5) (C := RX5) (T := TX5) (N := 7) hx hb hts inX5 hown hK hW hv5 (by decide) rfl rfl 1 (by decide) (hts (.fieldLink RX2 180 "HalfTickets$Window" "clerks" "I") (List.mem_of_getElem? (i := 1) (by decide +kernel))) (fun _ h9 => h9) rfl dX2_callAt_1 ?_
  refine lv_aload_n hx hb dX2_callAt_4 rfl (lv_at hl 1 rfl) ?_
  refine xg_get (κ := 5) (ci := 5) (C := RX5) (T := TX5) (N := 7) hx hb hts inX5 hown hK hW hv5 (by decide) rfl rfl 6 (by decide) (hts (.fieldLink RX2 150 "HalfTickets$Window" "serving" "LHalfTickets$Line;") (List.mem_of_getElem? (i := 2) (by decide +kernel))) (fun _ h9 => h9) rfl dX2_callAt_5 ?_
  refine xc_i (xr_V (As := []) (rest := [.int (M v 1)]) (κ := 6) ⟨hx, hb, hml, hown, hts⟩ (c_X1_length l O M (v + 3) (O.r hv5)) (cwV 0 hts gX2_callAt_X1_length rfl rfl rfl (by decide +kernel) ⟨Nat.le_of_ble_eq_true rfl, Nat.le_of_ble_eq_true rfl⟩) hK hst hnw hS hW (O.r hv5) (by decide) rfl rfl rfl hl.1 rfl (Nat.le_of_ble_eq_true rfl) dX2_callAt_8 ⟨Nat.zero_le _, Nat.zero_le _⟩) hS (fun r_3 M_1 H locs hq_2 hW hS => ?_)
  obtain ⟨hq_2a, hq_2b⟩ := hq_2
  rw [hq_2b] at hW
  rw [hq_2a]
  refine lv_isub hx hb dX2_callAt_11 ?_
  refine lv_istore_n (lv' := [(2, .int ((M v 1) - (M (v + 3) 1))), (0, .ref a), (1, .ref v)]) hx hb dX2_callAt_12 rfl hl (by decide) rfl (fun ls hl => ?_)
  refine lv_iconst (v := (nI 0)) hx hb dX2_callAt_13 (by decide) ?_
  refine lv_istore_n (lv' := [(3, .int (nI 0)), (2, .int ((M v 1) - (M (v + 3) 1))), (0, .ref a), (1, .ref v)]) hx hb dX2_callAt_14 rfl hl (by decide) rfl (fun ls hl => ?_)
  refine lv_iload_n hx hb dX2_callAt_15 rfl (lv_at hl 0 rfl) ?_
  refine lv_iload_n hx hb dX2_callAt_16 rfl (lv_at hl 1 rfl) ?_
  refine lv_icmp_ge (tgt := 90) hx hb dX2_callAt_17 (by decide) (fun c_4 => ?_) (fun c_4 => ?_)
  · exact W.vret hx hb hr (fun t ht hWm => ⟨⟨M, rfl, rfl, xw_end ht hW⟩, hS.F ht⟩) hS.2.2 dX2_callAt_90
  · refine lv_aload_n hx hb dX2_callAt_20 rfl (lv_at hl 2 rfl) ?_
    refine lv_aload_n hx hb dX2_callAt_21 rfl (lv_at hl 3 rfl) ?_
    refine xg_get (κ := 5) (ci := 5) (C := RX5) (T := TX5) (N := 7) hx hb hts inX5 hown hK hW hv5 (by decide) rfl rfl 5 (by decide) (hts (.fieldLink RX2 92 "HalfTickets$Window" "queue" "LHalfTickets$Line;") (List.mem_of_getElem? (i := 3) (by decide +kernel))) (fun _ h9 => h9) rfl dX2_callAt_22 ?_
    refine lv_iconst (v := (nI 0)) hx hb dX2_callAt_25 (by decide) ?_
    refine xc_i (xr_V (As := [.int (nI 0)]) (rest := [.ref a]) (κ := 6) ⟨hx, hb, hml, hown, hts⟩ (c_X1_numberAt l O M (v + 1) (O.q hv5) (nI 0) (Nat.zero_le _) hE1) (cwV 1 hts gX2_callAt_X1_numberAt rfl rfl rfl (by decide +kernel) ⟨Nat.le_of_ble_eq_true rfl, Nat.le_of_ble_eq_true rfl⟩) hK hst hnw hS hW (O.q hv5) (by decide) rfl rfl rfl hl.1 rfl (Nat.le_of_ble_eq_true rfl) dX2_callAt_26 ⟨Nat.zero_le _, Nat.zero_le _⟩) hS (fun r_7 M_5 H locs hq_6 hW hS => ?_)
    obtain ⟨hq_6a, hq_6b⟩ := hq_6
    rw [hq_6b] at hW
    rw [hq_6a]
    rw [xf_at_0 hE1]
    refine xc_q (xr_V (As := [.int (-6)]) (rest := []) (κ := 1) ⟨hx, hb, hml, hown, hts⟩ (c_X2_personAt l O M a hτ (-6)) (cwV 1 hts gX2_callAt_X2_personAt rfl rfl rfl (by decide +kernel) ⟨Nat.le_of_ble_eq_true rfl, Nat.le_of_ble_eq_true rfl⟩) hK hst hnw hS hW hτ (by decide) rfl rfl rfl hl.1 rfl (Nat.le_of_ble_eq_true rfl) dX2_callAt_29 ⟨Nat.zero_le _, Nat.zero_le _⟩) hS (fun r_10 M_8 H locs hq_9 hW hS => ?_)
    obtain ⟨hq_9a, hq_9b⟩ := hq_9
    rw [hq_9b] at hW
    rw [hq_9a]
    rw [xf_per_6]
    refine W.eq (g2 := F0 m 32 ls [.null]) rfl ?_
    refine lv_astoreN (lv' := [(4, .null), (3, .int (nI 0)), (2, .int ((M v 1) - (M (v + 3) 1))), (0, .ref a), (1, .ref v)]) hx hb dX2_callAt_32 hl (by decide) rfl (fun ls hl => ?_)
    refine lv_aloadN hx hb dX2_callAt_34 (lv_at hl 0 rfl) ?_
    refine lv_ifnullN (tgt := 47) hx hb dX2_callAt_36 (by decide) ?_
    exact W.vret hx hb hr (fun t ht hWm => ⟨⟨M, rfl, rfl, xw_end ht hW⟩, hS.F ht⟩) hS.2.2 dX2_callAt_47

set_option maxHeartbeats 4000000 in
set_option maxRecDepth 100000 in
/-- waitInQueues(), nobody stands -/
theorem ce_X2_waitInQueues (l : Launch) {G : va_G} {g : Nat → ClassId} {t0 τ : Nat → Nat} {A : Nat → Prop} (O : xk_O τ A) (M : xm_T) (a : Nat) (hτ : τ a = 1) (hE : ∀ k, k < 24 → M (a + 2 * k + 34) 3 = nI 4) : Met l yX2_waitInQueues wsX2_waitInQueues ({ frames := 0, cells := 0, slots := 0, locals := 0 }) (va_Pc [.ref a] (xS_t G g t0 τ A M)) (va_Qv (fun M' => M' = M) (fun M' t => xw_D G g τ M' t.heap) A) 0 0 A := by
  refine Met.ofW (cc := cX2_waitInQueues) (maxL := 6) (ret := none) (by decide) rfl ?_
  intro p e s m args below meth c s₁ B hml hv
  obtain ⟨rfl, hW, hK, hst, hnw⟩ := hv
  have hx := B.exec
  have hb := B.bytes
  have hr := B.returns
  have hts := atoms_spec (ws := wsX2_waitInQueues) B.pre
  have hown : s.vm.findClass RX2 = some m.cls := findClass_of_methodNamed B.named
  have hlocks := B.notSynchronized
  have hS : va_S A s.heap s.heap [] := va_S.rf
  have inX2 : ∀ w ∈ u_ws RX2 TX2 7, w ∈ wsX2_waitInQueues := by decide +kernel
  have inX4 : ∀ w ∈ u_ws RX4 TX4 12, w ∈ wsX2_waitInQueues := by decide +kernel
  have hl := lv_entry ([.ref a]) (n := 6) (Nat.le_of_ble_eq_true rfl)
  rw [lg_entry_eq]
  generalize (lg_sl ([.ref a]) ++ List.replicate (6 - (lg_sl ([.ref a])).length) Slot.unset).toArray = ls at hl ⊢
  have hl : lv_has ls 6 [(0, .ref a)] := hl
  refine lv_aload_n hx hb dX2_waitInQueues_0 rfl (lv_at hl 0 rfl) ?_
  refine xg_get (κ := 1) (ci := 2) (C := RX2) (T := TX2) (N := 7) hx hb hts inX2 hown hK hW hτ (by decide) rfl rfl 0 (by decide) (hts (.fieldLink RX2 18 "HalfTickets$Ministry" "settings" "[I") (List.mem_of_getElem? (i := 1) (by decide +kernel))) (fun _ h9 => h9) rfl dX2_waitInQueues_1 ?_
  refine lv_iconst (v := (nI 2)) hx hb dX2_waitInQueues_4 (by decide) ?_
  refine xg_iald (κ := 103) (n := 3) hx hb hK hW (O.m1 hτ) (by decide) rfl 2 rfl (by decide) (by decide) dX2_waitInQueues_5 ?_
  refine lv_istore_n (lv' := [(1, .int (M (a + 1) 2)), (0, .ref a)]) hx hb dX2_waitInQueues_6 rfl hl (by decide) rfl (fun ls hl => ?_)
  refine lv_aload_n hx hb dX2_waitInQueues_7 rfl (lv_at hl 1 rfl) ?_
  refine xg_get (κ := 1) (ci := 2) (C := RX2) (T := TX2) (N := 7) hx hb hts inX2 hown hK hW hτ (by decide) rfl rfl 2 (by decide) (hts (.fieldLink RX2 31 "HalfTickets$Ministry" "persons" "[LHalfTickets$Person;") (List.mem_of_getElem? (i := 2) (by decide +kernel))) (fun _ h9 => h9) rfl dX2_waitInQueues_8 ?_
  refine lv_astore_n (lv' := [(2, .ref (a + 3)), (1, .int (M (a + 1) 2)), (0, .ref a)]) hx hb dX2_waitInQueues_11 rfl hl (by decide) rfl (fun ls hl => ?_)
  refine lv_aload_n hx hb dX2_waitInQueues_12 rfl (lv_at hl 0 rfl) ?_
  refine xg_alen (κ := 4) (v := nI 24) hx hb hK hW (O.m3 hτ) (by decide) rfl 4 rfl rfl dX2_waitInQueues_13 ?_
  refine lv_istore_n (lv' := [(3, .int (nI 24)), (2, .ref (a + 3)), (1, .int (M (a + 1) 2)), (0, .ref a)]) hx hb dX2_waitInQueues_14 rfl hl (by decide) rfl (fun ls hl => ?_)
  refine lv_iconst (v := (nI 0)) hx hb dX2_waitInQueues_15 (by decide) ?_
  refine lv_istore (lv' := [(4, .int (nI 0)), (3, .int (nI 24)), (2, .ref (a + 3)), (1, .int (M (a + 1) 2)), (0, .ref a)]) hx hb dX2_waitInQueues_16 hl (by decide) rfl (fun ls hl => ?_)
  refine xl_up (σ := Unit) 24 (fun k z H locs ls => xw_D G g τ M H ∧ va_S A s.heap H locs ∧ lv_has ls 6 [(4, .int (nI k)), (3, .int (nI 24)), (2, .ref (a + 3)), (1, .int (M (a + 1) 2)), (0, .ref a)] ∧ True) (fun z18 H locs ls hI => ?_) (fun k18 z18 H locs ls hk18 hI ih18 => ?_) (k0 := 0) (z0 := ()) (Nat.zero_le _) ⟨hW, hS, lv_sub hl [0, 1, 2, 3, 4] rfl, trivial⟩
  · obtain ⟨hW, hS, hl, hE18⟩ := hI
    refine lv_iload hx hb dX2_waitInQueues_18 (lv_at hl 0 rfl) ?_
    refine lv_iload_n hx hb dX2_waitInQueues_20 rfl (lv_at hl 1 rfl) ?_
    refine lv_icmp_ge (tgt := 91) hx hb dX2_waitInQueues_21 (by decide) (fun c_1 => ?_) (fun c_1 => ?_)
    · exact W.vret hx hb hr (fun t ht hWm => ⟨⟨M, rfl, rfl, xw_end ht hW⟩, hS.F ht⟩) hS.2.2 dX2_waitInQueues_91
    · exact absurd (nI_le (Nat.le_refl _) (by decide)) c_1
  · obtain ⟨hW, hS, hl, hE18⟩ := hI
    refine lv_iload hx hb dX2_waitInQueues_18 (lv_at hl 0 rfl) ?_
    refine lv_iload_n hx hb dX2_waitInQueues_20 rfl (lv_at hl 1 rfl) ?_
    refine lv_icmp_ge (tgt := 91) hx hb dX2_waitInQueues_21 (by decide) (fun c_2 => ?_) (fun c_2 => ?_)
    · exact absurd c_2 (nI_ge hk18 (by decide))
    · refine lv_aload_n hx hb dX2_waitInQueues_24 rfl (lv_at hl 2 rfl) ?_
      refine lv_iload hx hb dX2_waitInQueues_25 (lv_at hl 0 rfl) ?_
      refine xg_aldP (a := a) hx hb hK hW (O.m3 hτ) k18 rfl hk18 dX2_waitInQueues_27 ?_
      refine lv_astore (lv' := [(5, .ref (a + 2 * k18 + 34)), (4, .int (nI k18)), (3, .int (nI 24)), (2, .ref (a + 3)), (1, .int (M (a + 1) 2)), (0, .ref a)]) hx hb dX2_waitInQueues_28 hl (by decide) rfl (fun ls hl => ?_)
      refine lv_aload hx hb dX2_waitInQueues_30 (lv_at hl 0 rfl) ?_
      refine xg_get (κ := 8) (ci := 4) (C := RX4) (T := TX4) (N := 12) hx hb hts inX4 hown hK hW (O.p hτ hk18) (by decide) rfl rfl 3 (by decide) (hts (.fieldLink RX2 69 "HalfTickets$Person" "where" "I") (List.mem_of_getElem? (i := 3) (by decide +kernel))) (fun _ h9 => h9) rfl dX2_waitInQueues_32 ?_
      refine lv_if_ne (tgt := 85) hx hb dX2_waitInQueues_35 (by decide) (fun c_3 => ?_) (fun c_3 => ?_)
      · refine lv_iinc (v := (nI (k18 + 1))) (lv' := [(4, .int (nI (k18 + 1))), (5, .ref (a + 2 * k18 + 34)), (3, .int (nI 24)), (2, .ref (a + 3)), (1, .int (M (a + 1) 2)), (0, .ref a)]) hx hb dX2_waitInQueues_85 hl (k := 1) rfl ((nI_1 k18)) (by decide) rfl (fun ls hl => ?_)
        refine lv_goto (tgt := 18) hx hb dX2_waitInQueues_88 (by decide) ?_
        exact ih18 () _ _ _ ⟨hW, hS, lv_sub hl [0, 2, 3, 4, 5] rfl, trivial⟩
      · exact absurd c_3 (by rw [hE k18 hk18]; decide)

set_option maxHeartbeats 4000000 in
set_option maxRecDepth 100000 in
/-- tick(), nobody is there -/
theorem ce_X2_tick (l : Launch) {G : va_G} {g : Nat → ClassId} {t0 τ : Nat → Nat} {A : Nat → Prop} (O : xk_O τ A) (M : xm_T) (a : Nat) (hτ : τ a = 1) (hE : xe_E M a) : Met l yX2_tick wsX2_tick ({ frames := 2, cells := 0, slots := 0, locals := 60 }) (va_Pc [.ref a] (xS_t G g t0 τ A M)) (va_Qv (fun M' => xe_R a M M') (fun M' t => xw_D G g τ M' t.heap) A) 0 0 A := by
  refine Met.ofW (cc := cX2_tick) (maxL := 5) (ret := none) (by decide) rfl ?_
  intro p e s m args below meth c s₁ B hml hv
  obtain ⟨rfl, hW, hK, hst, hnw⟩ := hv
  have hx := B.exec
  have hb := B.bytes
  have hr := B.returns
  have hts := atoms_spec (ws := wsX2_tick) B.pre
  have hown : s.vm.findClass RX2 = some m.cls := findClass_of_methodNamed B.named
  have hlocks := B.notSynchronized
  have hS : va_S A s.heap s.heap [] := va_S.rf
  have inX2 : ∀ w ∈ u_ws RX2 TX2 7, w ∈ wsX2_tick := by decide +kernel
  have inX4 : ∀ w ∈ u_ws RX4 TX4 12, w ∈ wsX2_tick := by decide +kernel
  have inX5 : ∀ w ∈ u_ws RX5 TX5 7, w ∈ wsX2_tick := by decide +kernel
  have hl := lv_entry ([.ref a]) (n := 5) (Nat.le_of_ble_eq_true rfl)
  rw [lg_entry_eq]
  generalize (lg_sl ([.ref a]) ++ List.replicate (5 - (lg_sl ([.ref a])).length) Slot.unset).toArray = ls at hl ⊢
  have hl : lv_has ls 5 [(0, .ref a)] := hl
  refine lv_aload_n hx hb dX2_tick_0 rfl (lv_at hl 0 rfl) ?_
  refine xg_get (κ := 1) (ci := 2) (C := RX2) (T := TX2) (N := 7) hx hb hts inX2 hown hK hW hτ (by decide) rfl rfl 2 (by decide) (hts (.fieldLink RX2 31 "HalfTickets$Ministry" "persons" "[LHalfTickets$Person;") (List.mem_of_getElem? (i := 1) (by decide +kernel))) (fun _ h9 => h9) rfl dX2_tick_1 ?_
  refine lv_astore_n (lv' := [(1, .ref (a + 3)), (0, .ref a)]) hx hb dX2_tick_4 rfl hl (by decide) rfl (fun ls hl => ?_)
  refine lv_aload_n hx hb dX2_tick_5 rfl (lv_at hl 0 rfl) ?_
  refine xg_alen (κ := 4) (v := nI 24) hx hb hK hW (O.m3 hτ) (by decide) rfl 4 rfl rfl dX2_tick_6 ?_
  refine lv_istore_n (lv' := [(2, .int (nI 24)), (1, .ref (a + 3)), (0, .ref a)]) hx hb dX2_tick_7 rfl hl (by decide) rfl (fun ls hl => ?_)
  refine lv_iconst (v := (nI 0)) hx hb dX2_tick_8 (by decide) ?_
  refine lv_istore_n (lv' := [(3, .int (nI 0)), (2, .int (nI 24)), (1, .ref (a + 3)), (0, .ref a)]) hx hb dX2_tick_9 rfl hl (by decide) rfl (fun ls hl => ?_)
  refine xl_up (σ := xm_T) 24 (fun k z H locs ls => xw_D G g τ z H ∧ va_S A s.heap H locs ∧ lv_has ls 5 [(3, .int (nI k)), (2, .int (nI 24)), (1, .ref (a + 3)), (0, .ref a)] ∧ xe_R a M z) (fun z10 H locs ls hI => ?_) (fun k10 z10 H locs ls hk10 hI ih10 => ?_) (k0 := 0) (z0 := M) (Nat.zero_le _) ⟨hW, hS, lv_sub hl [0, 1, 2, 3] rfl, (xe_rf a M)⟩
  · obtain ⟨hW, hS, hl, hE10⟩ := hI
    refine lv_iload_n hx hb dX2_tick_10 rfl (lv_at hl 0 rfl) ?_
    refine lv_iload_n hx hb dX2_tick_11 rfl (lv_at hl 1 rfl) ?_
    refine lv_icmp_ge (tgt := 32) hx hb dX2_tick_12 (by decide) (fun c_1 => ?_) (fun c_1 => ?_)
    · refine lv_aload_n hx hb dX2_tick_32 rfl (lv_at hl 3 rfl) ?_
      refine xg_get (κ := 1) (ci := 2) (C := RX2) (T := TX2) (N := 7) hx hb hts inX2 hown hK hW hτ (by decide) rfl rfl 1 (by decide) (hts (.fieldLink RX2 25 "HalfTickets$Ministry" "windows" "[LHalfTickets$Window;") (List.mem_of_getElem? (i := 3) (by decide +kernel))) (fun _ h9 => h9) rfl dX2_tick_33 ?_
      refine lv_astore_n (lv' := [(1, .ref (a + 2)), (3, .int (nI 24)), (2, .int (nI 24)), (0, .ref a)]) hx hb dX2_tick_36 rfl hl (by decide) rfl (fun ls hl => ?_)
      refine lv_aload_n hx hb dX2_tick_37 rfl (lv_at hl 0 rfl) ?_
      refine xg_alen (κ := 3) (v := nI 6) hx hb hK hW (O.m2 hτ) (by decide) rfl 3 rfl rfl dX2_tick_38 ?_
      refine lv_istore_n (lv' := [(2, .int (nI 6)), (1, .ref (a + 2)), (3, .int (nI 24)), (0, .ref a)]) hx hb dX2_tick_39 rfl hl (by decide) rfl (fun ls hl => ?_)
      refine lv_iconst (v := (nI 0)) hx hb dX2_tick_40 (by decide) ?_
      refine lv_istore_n (lv' := [(3, .int (nI 0)), (2, .int (nI 6)), (1, .ref (a + 2)), (0, .ref a)]) hx hb dX2_tick_41 rfl hl (by decide) rfl (fun ls hl => ?_)
      have hE1 := xe_keep hE10 hE
      refine xl_up (σ := Unit) 6 (fun k z H locs ls => xw_D G g τ z10 H ∧ va_S A s.heap H locs ∧ lv_has ls 5 [(3, .int (nI k)), (2, .int (nI 6)), (1, .ref (a + 2)), (0, .ref a)] ∧ True) (fun z42 H locs ls hI => ?_) (fun k42 z42 H locs ls hk42 hI ih42 => ?_) (k0 := 0) (z0 := ()) (Nat.zero_le _) ⟨hW, hS, lv_sub hl [0, 1, 2, 3] rfl, trivial⟩
      · obtain ⟨hW, hS, hl, hE42⟩ := hI
        have hE1 := xe_keep hE10 hE
        refine lv_iload_n hx hb dX2_tick_42 rfl (lv_at hl 0 rfl) ?_
        refine lv_iload_n hx hb dX2_tick_43 rfl (lv_at hl 1 rfl) ?_
        refine lv_icmp_ge (tgt := 78) hx hb dX2_tick_44 (by decide) (fun c_2 => ?_) (fun c_2 => ?_)
        · refine lv_aload_n hx hb dX2_tick_78 rfl (lv_at hl 3 rfl) ?_
          refine xc_v (xr_V (As := []) (rest := []) (κ := 1) ⟨hx, hb, hml, hown, hts⟩ (ce_X2_waitInQueues l O z10 a hτ hE1.2) (cwV 0 hts gX2_tick_X2_waitInQueues rfl rfl rfl (by decide +kernel) ⟨Nat.le_of_ble_eq_true rfl, Nat.le_of_ble_eq_true rfl⟩) hK hst hnw hS hW hτ (by decide) rfl rfl rfl hl.1 rfl (Nat.le_of_ble_eq_true rfl) dX2_tick_79 ⟨Nat.zero_le _, Nat.zero_le _⟩) hS (fun M_3 H locs hq_4 hW hS => ?_)
          rw [hq_4] at hW
          refine lv_aload_n hx hb dX2_tick_82 rfl (lv_at hl 3 rfl) ?_
          refine lv_dup hx hb dX2_tick_83 rfl ?_
          refine xg_get (κ := 1) (ci := 2) (C := RX2) (T := TX2) (N := 7) hx hb hts inX2 hown hK hW hτ (by decide) rfl rfl 4 (by decide) (hts (.fieldLink RX2 56 "HalfTickets$Ministry" "ticks" "I") (List.mem_of_getElem? (i := 5) (by decide +kernel))) (fun _ h9 => h9) rfl dX2_tick_84 ?_
          refine lv_iconst (v := (nI 1)) hx hb dX2_tick_87 (by decide) ?_
          refine lv_iadd hx hb dX2_tick_88 ?_
          refine xg_put (κ := 1) (ci := 2) (C := RX2) (T := TX2) (N := 7) hx hb hts inX2 tyX2 tyX2_ok nmX2 hown hK O hW hS hτ (by decide) rfl rfl 4 (by decide) (v := ((z10 a 4) + (nI 1))) rfl trivial (hts (.fieldLink RX2 56 "HalfTickets$Ministry" "ticks" "I") (List.mem_of_getElem? (i := 5) (by decide +kernel))) (fun _ h9 => h9) rfl (ty := .int) (by decide +kernel) rfl rfl (Nat.le_of_ble_eq_true rfl) dX2_tick_89 (fun H locs hW hS => ?_)
          obtain ⟨M_6, eM_6⟩ : ∃ M9, M9 = xu_p z10 a 4 ((z10 a 4) + (nI 1)) := ⟨_, rfl⟩
          rw [← eM_6] at hW
          exact W.vret hx hb hr (fun t ht hWm => ⟨⟨M_6, rfl, (xe_tr hE10 (fun x j => by rw [eM_6]; by_cases q : x = a ∧ j = 4; exact Or.inl q; exact Or.inr (Or.inr (xu_n _ (by omega))))), xw_end ht hW⟩, hS.F ht⟩) hS.2.2 dX2_tick_92
        · exact absurd (nI_le (Nat.le_refl _) (by decide)) c_2
      · obtain ⟨hW, hS, hl, hE42⟩ := hI
        refine lv_iload_n hx hb dX2_tick_42 rfl (lv_at hl 0 rfl) ?_
        refine lv_iload_n hx hb dX2_tick_43 rfl (lv_at hl 1 rfl) ?_
        refine lv_icmp_ge (tgt := 78) hx hb dX2_tick_44 (by decide) (fun c_7 => ?_) (fun c_7 => ?_)
        · exact absurd c_7 (nI_ge hk42 (by decide))
        · refine lv_aload_n hx hb dX2_tick_47 rfl (lv_at hl 2 rfl) ?_
          refine lv_iload_n hx hb dX2_tick_48 rfl (lv_at hl 0 rfl) ?_
          refine xg_aldW (a := a) hx hb hK hW (O.m2 hτ) k42 rfl hk42 dX2_tick_49 ?_
          refine lv_astore (lv' := [(4, .ref (a + 5 * k42 + 4)), (3, .int (nI k42)), (2, .int (nI 6)), (1, .ref (a + 2)), (0, .ref a)]) hx hb dX2_tick_50 hl (by decide) rfl (fun ls hl => ?_)
          refine lv_aload hx hb dX2_tick_52 (lv_at hl 0 rfl) ?_
          refine xg_get (κ := 5) (ci := 5) (C := RX5) (T := TX5) (N := 7) hx hb hts inX5 hown hK hW (O.w hτ hk42) (by decide) rfl rfl 0 (by decide) (hts (.fieldLink RX2 65 "HalfTickets$Window" "isOpen" "Z") (List.mem_of_getElem? (i := 4) (by decide +kernel))) (fun _ h9 => h9) rfl dX2_tick_54 ?_
          refine lv_if_eq (tgt := 72) hx hb dX2_tick_57 (by decide) (fun c_8 => ?_) (fun c_8 => ?_)
          · refine lv_iinc (v := (nI (k42 + 1))) (lv' := [(3, .int (nI (k42 + 1))), (4, .ref (a + 5 * k42 + 4)), (2, .int (nI 6)), (1, .ref (a + 2)), (0, .ref a)]) hx hb dX2_tick_72 hl (k := 1) rfl ((nI_1 k42)) (by decide) rfl (fun ls hl => ?_)
            refine lv_goto (tgt := 42) hx hb dX2_tick_75 (by decide) ?_
            exact ih42 () _ _ _ ⟨hW, hS, lv_sub hl [0, 2, 3, 4] rfl, trivial⟩
          · refine lv_aload_n hx hb dX2_tick_60 rfl (lv_at hl 4 rfl) ?_
            refine lv_aload hx hb dX2_tick_61 (lv_at hl 0 rfl) ?_
            refine xc_v (xr_V (As := [.ref (a + 5 * k42 + 4)]) (rest := []) (κ := 1) ⟨hx, hb, hml, hown, hts⟩ (ce_X2_serveAt l O z10 a (a + 5 * k42 + 4) hτ (O.w hτ hk42) (hE1.1 k42 hk42).2) (cwV 1 hts gX2_tick_X2_serveAt rfl rfl rfl (by decide +kernel) ⟨Nat.le_of_ble_eq_true rfl, Nat.le_of_ble_eq_true rfl⟩) hK hst hnw hS hW hτ (by decide) rfl rfl rfl hl.1 rfl (Nat.le_of_ble_eq_true rfl) dX2_tick_63 ⟨Nat.zero_le _, Nat.zero_le _⟩) hS (fun M_9 H locs hq_10 hW hS => ?_)
            rw [hq_10] at hW
            refine lv_aload_n hx hb dX2_tick_66 rfl (lv_at hl 4 rfl) ?_
            refine lv_aload hx hb dX2_tick_67 (lv_at hl 0 rfl) ?_
            refine xc_v (xr_V (As := [.ref (a + 5 * k42 + 4)]) (rest := []) (κ := 1) ⟨hx, hb, hml, hown, hts⟩ (ce_X2_callAt l O z10 a (a + 5 * k42 + 4) hτ (O.w hτ hk42) (hE1.1 k42 hk42).1 (hE1.1 k42 hk42).2) (cwV 1 hts gX2_tick_X2_callAt rfl rfl rfl (by decide +kernel) ⟨Nat.le_of_ble_eq_true rfl, Nat.le_of_ble_eq_true rfl⟩) hK hst hnw hS hW hτ (by decide) rfl rfl rfl hl.1 rfl (Nat.le_of_ble_eq_true rfl) dX2_tick_69 ⟨Nat.zero_le _, Nat.zero_le _⟩) hS (fun M_12 H locs hq_13 hW hS => ?_)
            rw [hq_13] at hW
            refine lv_iinc (v := (nI (k42 + 1))) (lv' := [(3, .int (nI (k42 + 1))), (4, .ref (a + 5 * k42 + 4)), (2, .int (nI 6)), (1, .ref (a + 2)), (0, .ref a)]) hx hb dX2_tick_72 hl (k := 1) rfl ((nI_1 k42)) (by decide) rfl (fun ls hl => ?_)
            refine lv_goto (tgt := 42) hx hb dX2_tick_75 (by decide) ?_
            exact ih42 () _ _ _ ⟨hW, hS, lv_sub hl [0, 2, 3, 4] rfl, trivial⟩
    · exact absurd (nI_le (Nat.le_refl _) (by decide)) c_1
  · obtain ⟨hW, hS, hl, hE10⟩ := hI
    refine lv_iload_n hx hb dX2_tick_10 rfl (lv_at hl 0 rfl) ?_
    refine lv_iload_n hx hb dX2_tick_11 rfl (lv_at hl 1 rfl) ?_
    refine lv_icmp_ge (tgt := 32) hx hb dX2_tick_12 (by decide) (fun c_15 => ?_) (fun c_15 => ?_)
    · exact absurd c_15 (nI_ge hk10 (by decide))
    · refine lv_aload_n hx hb dX2_tick_15 rfl (lv_at hl 2 rfl) ?_
      refine lv_iload_n hx hb dX2_tick_16 rfl (lv_at hl 0 rfl) ?_
      refine xg_aldP (a := a) hx hb hK hW (O.m3 hτ) k10 rfl hk10 dX2_tick_17 ?_
      refine lv_astore (lv' := [(4, .ref (a + 2 * k10 + 34)), (3, .int (nI k10)), (2, .int (nI 24)), (1, .ref (a + 3)), (0, .ref a)]) hx hb dX2_tick_18 hl (by decide) rfl (fun ls hl => ?_)
      refine lv_aload hx hb dX2_tick_20 (lv_at hl 0 rfl) ?_
      refine lv_iconst (v := (nI 0)) hx hb dX2_tick_22 (by decide) ?_
      refine xg_put (κ := 8) (ci := 4) (C := RX4) (T := TX4) (N := 12) hx hb hts inX4 tyX4 tyX4_ok nmX4 hown hK O hW hS (O.p hτ hk10) (by decide) rfl rfl 11 (by decide) (v := (nI 0)) rfl ⟨(xw_okp hW (O.p hτ hk10) (by decide)).1, xb_0⟩ (hts (.fieldLink RX2 138 "HalfTickets$Person" "cameInThisTick" "Z") (List.mem_of_getElem? (i := 2) (by decide +kernel))) (fun _ h9 => h9) rfl (ty := .boolean) (by decide +kernel) (xb_nar xb_0) (xb_fit xb_0) (Nat.le_of_ble_eq_true rfl) dX2_tick_23 (fun H locs hW hS => ?_)
      obtain ⟨M_16, eM_16⟩ : ∃ M9, M9 = xu_p z10 (a + 2 * k10 + 34) 11 (nI 0) := ⟨_, rfl⟩
      rw [← eM_16] at hW
      refine lv_iinc (v := (nI (k10 + 1))) (lv' := [(3, .int (nI (k10 + 1))), (4, .ref (a + 2 * k10 + 34)), (2, .int (nI 24)), (1, .ref (a + 3)), (0, .ref a)]) hx hb dX2_tick_26 hl (k := 1) rfl ((nI_1 k10)) (by decide) rfl (fun ls hl => ?_)
      refine lv_goto (tgt := 10) hx hb dX2_tick_29 (by decide) ?_
      exact ih10 M_16 _ _ _ ⟨hW, hS, lv_sub hl [0, 2, 3, 4] rfl, (xe_tr hE10 (fun x j => by rw [eM_16]; by_cases q : x = a + 2 * k10 + 34 ∧ j = 11; exact Or.inr (Or.inl ⟨q.2, k10, hk10, q.1⟩); exact Or.inr (Or.inr (xu_n _ (by omega)))))⟩
