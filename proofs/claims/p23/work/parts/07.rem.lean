/-- the six states of the history at h have the numbers of the ministry at o -/
def xn_H (M : xm_T) (h o : Nat) : Prop := ∀ i, i < 6 → ∀ k, k < 24 → M (h + 82 * i + 2 + 2 * k + 34) 0 = M (o + 2 * k + 34) 0
/-- what remember does: the history's own cells alone change, next stays within, the numbers stay -/
def xf_rem (M M' : xm_T) (h : Nat) : Prop := (∃ n, n ≤ 6 ∧ M' h 1 = nI n) ∧ (∀ x, x < h ∨ h + 494 ≤ x → M' x = M x) ∧ ∀ i, i < 6 → ∀ k, k < 24 → M' (h + 82 * i + 2 + 2 * k + 34) 0 = M (h + 82 * i + 2 + 2 * k + 34) 0

set_option maxHeartbeats 4000000 in
set_option maxRecDepth 100000 in
/-- History.remember(o) -/
theorem c_X0_remember (l : Launch) {G : va_G} {g : Nat → ClassId} {t0 τ : Nat → Nat} {A : Nat → Prop} (O : xk_O τ A) (M : xm_T) (h o : Nat) (hτ : τ h = 10) (hτo : τ o = 1) (hd : o + 82 ≤ h ∨ h + 494 ≤ o) {n : Nat} (hn : n ≤ 6) (hM : M h 1 = nI n) (hN : xn_H M h o) : Met l yX0_remember wsX0_remember ({ frames := 4, cells := 0, slots := 0, locals := 130 }) (va_Pc [.ref h, .ref o] (xS_t G g t0 τ A M)) (va_Qv (fun M' => xf_rem M M' h) (fun M' t => xw_D G g τ M' t.heap) A) 0 0 A := by
  refine Met.ofW (cc := cX0_remember) (maxL := 2) (ret := none) (by decide) rfl ?_
  intro p e s m args below meth c s₁ B hml hv
  obtain ⟨rfl, hW, hK, hst, hnw⟩ := hv
  have hx := B.exec
  have hb := B.bytes
  have hr := B.returns
  have hts := atoms_spec (ws := wsX0_remember) B.pre
  have hown : s.vm.findClass RX0 = some m.cls := findClass_of_methodNamed B.named
  have hlocks := B.notSynchronized
  have hS : va_S A s.heap s.heap [] := va_S.rf
  have inX0 : ∀ w ∈ u_ws RX0 TX0 3, w ∈ wsX0_remember := by decide +kernel
  have hl := lv_entry ([.ref h, .ref o]) (n := 2) (Nat.le_of_ble_eq_true rfl)
  rw [lg_entry_eq]
  generalize (lg_sl ([.ref h, .ref o]) ++ List.replicate (2 - (lg_sl ([.ref h, .ref o])).length) Slot.unset).toArray = ls at hl ⊢
  have hl : lv_has ls 2 [(0, .ref h), (1, .ref o)] := hl
  refine lv_aload_n hx hb dX0_remember_0 rfl (lv_at hl 0 rfl) ?_
  refine xg_get (κ := 10) (ci := 0) (C := RX0) (T := TX0) (N := 3) hx hb hts inX0 hown hK hW hτ (by decide) rfl rfl 1 (by decide) (hts (.fieldLink RX0 22 "HalfTickets$History" "next" "I") (List.mem_of_getElem? (i := 1) (by decide +kernel))) (fun _ h9 => h9) rfl dX0_remember_1 ?_
  refine lv_aload_n hx hb dX0_remember_4 rfl (lv_at hl 0 rfl) ?_
  refine xg_get (κ := 10) (ci := 0) (C := RX0) (T := TX0) (N := 3) hx hb hts inX0 hown hK hW hτ (by decide) rfl rfl 0 (by decide) (hts (.fieldLink RX0 11 "HalfTickets$History" "states" "[LHalfTickets$Ministry;") (List.mem_of_getElem? (i := 2) (by decide +kernel))) (fun _ h9 => h9) rfl dX0_remember_5 ?_
  refine xg_alen (κ := 11) (v := nI 6) hx hb hK hW (O.h1 hτ) (by decide) rfl 5 rfl rfl dX0_remember_8 ?_
  refine lv_icmp_lt (tgt := 17) hx hb dX0_remember_9 (by decide) (fun c_1 => ?_) (fun c_1 => ?_)
  · have hn6 : n < 6 := by rw [hM] at c_1; exact (nI_ltI (by omega) (by omega)).mp c_1
    obtain ⟨j, hj, hMj⟩ : ∃ j, j < 6 ∧ M h 1 = nI j := ⟨n, hn6, hM⟩
    have hx1 : ∀ x, x ≠ h → M x = M x := fun _ _ => rfl
    refine lv_aload_n hx hb dX0_remember_17 rfl (lv_at hl 0 rfl) ?_
    refine xg_get (κ := 10) (ci := 0) (C := RX0) (T := TX0) (N := 3) hx hb hts inX0 hown hK hW hτ (by decide) rfl rfl 0 (by decide) (hts (.fieldLink RX0 11 "HalfTickets$History" "states" "[LHalfTickets$Ministry;") (List.mem_of_getElem? (i := 2) (by decide +kernel))) (fun _ h9 => h9) rfl dX0_remember_18 ?_
    refine lv_aload_n hx hb dX0_remember_21 rfl (lv_at hl 0 rfl) ?_
    refine xg_get (κ := 10) (ci := 0) (C := RX0) (T := TX0) (N := 3) hx hb hts inX0 hown hK hW hτ (by decide) rfl rfl 1 (by decide) (hts (.fieldLink RX0 22 "HalfTickets$History" "next" "I") (List.mem_of_getElem? (i := 1) (by decide +kernel))) (fun _ h9 => h9) rfl dX0_remember_22 ?_
    refine xg_aldH (a := h) hx hb hK hW (O.h1 hτ) j hMj hj dX0_remember_25 ?_
    refine lv_aload_n hx hb dX0_remember_26 rfl (lv_at hl 1 rfl) ?_
    have hNj : ∀ k, k < 24 → M (h + 82 * j + 2 + 2 * k + 34) 0 = M (o + 2 * k + 34) 0 := fun k hk => by rw [hx1 _ (by omega), hx1 _ (by omega)]; exact hN j hj k hk
    refine xc_v (xr_V (As := [.ref o]) (rest := []) (κ := 1) ⟨hx, hb, hml, hown, hts⟩ (c_X2_become l O M (h + 82 * j + 2) o (O.hm hτ hj) hτo (by omega) hNj) (cwV 1 hts gX0_remember_X2_become rfl rfl rfl (by decide +kernel) ⟨Nat.le_of_ble_eq_true rfl, Nat.le_of_ble_eq_true rfl⟩) hK hst hnw hS hW (O.hm hτ hj) (by decide) rfl rfl rfl hl.1 rfl (Nat.le_of_ble_eq_true rfl) dX0_remember_27 ⟨Nat.zero_le _, Nat.zero_le _⟩) hS (fun M_2 H locs hq_3 hW hS => ?_)
    have hc1 : M_2 h = M h := by rw [hq_3]; exact xf_out (by omega)
    have hc2 : ∀ x, x < h ∨ h + 494 ≤ x → M_2 x = M x := fun x hx => (show M_2 x = M x by rw [hq_3, xf_out (by omega)]).trans (hx1 x (by omega))
    have hc3 : ∀ i, i < 6 → ∀ k, k < 24 → M_2 (h + 82 * i + 2 + 2 * k + 34) 0 = M (h + 82 * i + 2 + 2 * k + 34) 0 := fun i hi k hk => by
        rw [hq_3]
        by_cases hij : i = j
        · subst hij
          rw [xf_in (by omega), hx1 _ (by omega), hN i hi k hk]
          congr 1
          omega
        · exact (show xf_cp M (h + 82 * j + 2) o 82 (h + 82 * i + 2 + 2 * k + 34) 0 = M (h + 82 * i + 2 + 2 * k + 34) 0 by rw [xf_out (by omega)]).trans (congrFun (hx1 _ (by omega)) 0)
    refine lv_aload_n hx hb dX0_remember_30 rfl (lv_at hl 0 rfl) ?_
    refine lv_dup hx hb dX0_remember_31 rfl ?_
    refine xg_get (κ := 10) (ci := 0) (C := RX0) (T := TX0) (N := 3) hx hb hts inX0 hown hK hW hτ (by decide) rfl rfl 1 (by decide) (hts (.fieldLink RX0 22 "HalfTickets$History" "next" "I") (List.mem_of_getElem? (i := 1) (by decide +kernel))) (fun _ h9 => h9) rfl dX0_remember_32 ?_
    refine lv_iconst (v := (nI 1)) hx hb dX0_remember_35 (by decide) ?_
    refine lv_iadd hx hb dX0_remember_36 ?_
    refine xg_put (κ := 10) (ci := 0) (C := RX0) (T := TX0) (N := 3) hx hb hts inX0 tyX0 tyX0_ok nmX0 hown hK O hW hS hτ (by decide) rfl rfl 1 (by decide) (v := ((M_2 h 1) + (nI 1))) rfl trivial (hts (.fieldLink RX0 22 "HalfTickets$History" "next" "I") (List.mem_of_getElem? (i := 1) (by decide +kernel))) (fun _ h9 => h9) rfl (ty := .int) (by decide +kernel) rfl rfl (Nat.le_of_ble_eq_true rfl) dX0_remember_37 (fun H locs hW hS => ?_)
    obtain ⟨M_5, eM_5⟩ : ∃ M9, M9 = xu_p M_2 h 1 ((M_2 h 1) + (nI 1)) := ⟨_, rfl⟩
    rw [← eM_5] at hW
    refine lv_aload_n hx hb dX0_remember_40 rfl (lv_at hl 0 rfl) ?_
    refine lv_aload_n hx hb dX0_remember_41 rfl (lv_at hl 0 rfl) ?_
    refine xg_get (κ := 10) (ci := 0) (C := RX0) (T := TX0) (N := 3) hx hb hts inX0 hown hK hW hτ (by decide) rfl rfl 2 (by decide) (hts (.fieldLink RX0 18 "HalfTickets$History" "kept" "I") (List.mem_of_getElem? (i := 3) (by decide +kernel))) (fun _ h9 => h9) rfl dX0_remember_42 ?_
    refine lv_iconst (v := (nI 1)) hx hb dX0_remember_45 (by decide) ?_
    refine lv_iadd hx hb dX0_remember_46 ?_
    refine lv_aload_n hx hb dX0_remember_47 rfl (lv_at hl 0 rfl) ?_
    refine xg_get (κ := 10) (ci := 0) (C := RX0) (T := TX0) (N := 3) hx hb hts inX0 hown hK hW hτ (by decide) rfl rfl 0 (by decide) (hts (.fieldLink RX0 11 "HalfTickets$History" "states" "[LHalfTickets$Ministry;") (List.mem_of_getElem? (i := 2) (by decide +kernel))) (fun _ h9 => h9) rfl dX0_remember_48 ?_
    refine xg_alen (κ := 11) (v := nI 6) hx hb hK hW (O.h1 hτ) (by decide) rfl 5 rfl rfl dX0_remember_51 ?_
    refine va_mmin hx hb (by rw [hml]; exact hl.1.symm) hown (hts (.methodLink RX0 29 Lib.Math.min.name) (List.mem_of_getElem? (i := 4) (by decide +kernel))) (hts (.static Lib.Math.min.name) (List.mem_of_getElem? (i := 5) (by decide +kernel))) (hts (.initialized "java/lang/Math") (List.mem_of_getElem? (i := 6) (by decide +kernel))) (hts (.code Lib.Math.min.name Lib.Math.min.code 2 (some .int)) (List.mem_of_getElem? (i := 7) (by decide +kernel))) (Nat.le_of_ble_eq_true rfl) (Nat.le_of_ble_eq_true rfl) (Nat.zero_le _) (Nat.zero_le _) dX0_remember_52 ?_
    refine xg_put (κ := 10) (ci := 0) (C := RX0) (T := TX0) (N := 3) hx hb hts inX0 tyX0 tyX0_ok nmX0 hown hK O hW hS hτ (by decide) rfl rfl 2 (by decide) (v := (if (nI 6) < ((M_5 h 2) + (nI 1)) then (nI 6) else ((M_5 h 2) + (nI 1)))) rfl trivial (hts (.fieldLink RX0 18 "HalfTickets$History" "kept" "I") (List.mem_of_getElem? (i := 3) (by decide +kernel))) (fun _ h9 => h9) rfl (ty := .int) (by decide +kernel) rfl rfl (Nat.le_of_ble_eq_true rfl) dX0_remember_55 (fun H locs hW hS => ?_)
    obtain ⟨M_6, eM_6⟩ : ∃ M9, M9 = xu_p M_5 h 2 (if (nI 6) < ((M_5 h 2) + (nI 1)) then (nI 6) else ((M_5 h 2) + (nI 1))) := ⟨_, rfl⟩
    rw [← eM_6] at hW
    have hpost : xf_rem M M_6 h := by
        have g1 : ∀ x, x ≠ h → M_6 x = M_2 x := fun x hx => by rw [eM_6, xu_p, xr_n _ _ hx, eM_5, xu_p, xr_n _ _ hx]
        refine ⟨⟨j + 1, by omega, ?_⟩, fun x hx => ?_, fun i hi k hk => ?_⟩
        · rw [eM_6, xu_n _ (Or.inr (by decide)), eM_5, xu_s, hc1, hMj]
          exact nI_1 j
        · rw [g1 x (by omega)]
          exact hc2 x hx
        · rw [g1 _ (by omega)]
          exact hc3 i hi k hk
    exact W.vret hx hb hr (fun t ht hWm => ⟨⟨M_6, rfl, hpost, xw_end ht hW⟩, hS.F ht⟩) hS.2.2 dX0_remember_58
  · refine lv_aload_n hx hb dX0_remember_12 rfl (lv_at hl 0 rfl) ?_
    refine lv_iconst (v := (nI 0)) hx hb dX0_remember_13 (by decide) ?_
    refine xg_put (κ := 10) (ci := 0) (C := RX0) (T := TX0) (N := 3) hx hb hts inX0 tyX0 tyX0_ok nmX0 hown hK O hW hS hτ (by decide) rfl rfl 1 (by decide) (v := (nI 0)) rfl trivial (hts (.fieldLink RX0 22 "HalfTickets$History" "next" "I") (List.mem_of_getElem? (i := 1) (by decide +kernel))) (fun _ h9 => h9) rfl (ty := .int) (by decide +kernel) rfl rfl (Nat.le_of_ble_eq_true rfl) dX0_remember_14 (fun H locs hW hS => ?_)
    obtain ⟨M_7, eM_7⟩ : ∃ M9, M9 = xu_p M h 1 (nI 0) := ⟨_, rfl⟩
    rw [← eM_7] at hW
    obtain ⟨j, hj, hMj⟩ : ∃ j, j < 6 ∧ M_7 h 1 = nI j := ⟨0, by decide, by rw [eM_7]; exact xu_s _ _ _ _⟩
    have hx1 : ∀ x, x ≠ h → M_7 x = M x := fun x hx => by rw [eM_7]; exact xr_n _ _ hx
    refine lv_aload_n hx hb dX0_remember_17 rfl (lv_at hl 0 rfl) ?_
    refine xg_get (κ := 10) (ci := 0) (C := RX0) (T := TX0) (N := 3) hx hb hts inX0 hown hK hW hτ (by decide) rfl rfl 0 (by decide) (hts (.fieldLink RX0 11 "HalfTickets$History" "states" "[LHalfTickets$Ministry;") (List.mem_of_getElem? (i := 2) (by decide +kernel))) (fun _ h9 => h9) rfl dX0_remember_18 ?_
    refine lv_aload_n hx hb dX0_remember_21 rfl (lv_at hl 0 rfl) ?_
    refine xg_get (κ := 10) (ci := 0) (C := RX0) (T := TX0) (N := 3) hx hb hts inX0 hown hK hW hτ (by decide) rfl rfl 1 (by decide) (hts (.fieldLink RX0 22 "HalfTickets$History" "next" "I") (List.mem_of_getElem? (i := 1) (by decide +kernel))) (fun _ h9 => h9) rfl dX0_remember_22 ?_
    refine xg_aldH (a := h) hx hb hK hW (O.h1 hτ) j hMj hj dX0_remember_25 ?_
    refine lv_aload_n hx hb dX0_remember_26 rfl (lv_at hl 1 rfl) ?_
    have hNj : ∀ k, k < 24 → M_7 (h + 82 * j + 2 + 2 * k + 34) 0 = M_7 (o + 2 * k + 34) 0 := fun k hk => by rw [hx1 _ (by omega), hx1 _ (by omega)]; exact hN j hj k hk
    refine xc_v (xr_V (As := [.ref o]) (rest := []) (κ := 1) ⟨hx, hb, hml, hown, hts⟩ (c_X2_become l O M_7 (h + 82 * j + 2) o (O.hm hτ hj) hτo (by omega) hNj) (cwV 1 hts gX0_remember_X2_become rfl rfl rfl (by decide +kernel) ⟨Nat.le_of_ble_eq_true rfl, Nat.le_of_ble_eq_true rfl⟩) hK hst hnw hS hW (O.hm hτ hj) (by decide) rfl rfl rfl hl.1 rfl (Nat.le_of_ble_eq_true rfl) dX0_remember_27 ⟨Nat.zero_le _, Nat.zero_le _⟩) hS (fun M_8 H locs hq_9 hW hS => ?_)
    have hc1 : M_8 h = M_7 h := by rw [hq_9]; exact xf_out (by omega)
    have hc2 : ∀ x, x < h ∨ h + 494 ≤ x → M_8 x = M x := fun x hx => (show M_8 x = M_7 x by rw [hq_9, xf_out (by omega)]).trans (hx1 x (by omega))
    have hc3 : ∀ i, i < 6 → ∀ k, k < 24 → M_8 (h + 82 * i + 2 + 2 * k + 34) 0 = M (h + 82 * i + 2 + 2 * k + 34) 0 := fun i hi k hk => by
        rw [hq_9]
        by_cases hij : i = j
        · subst hij
          rw [xf_in (by omega), hx1 _ (by omega), hN i hi k hk]
          congr 1
          omega
        · exact (show xf_cp M_7 (h + 82 * j + 2) o 82 (h + 82 * i + 2 + 2 * k + 34) 0 = M_7 (h + 82 * i + 2 + 2 * k + 34) 0 by rw [xf_out (by omega)]).trans (congrFun (hx1 _ (by omega)) 0)
    refine lv_aload_n hx hb dX0_remember_30 rfl (lv_at hl 0 rfl) ?_
    refine lv_dup hx hb dX0_remember_31 rfl ?_
    refine xg_get (κ := 10) (ci := 0) (C := RX0) (T := TX0) (N := 3) hx hb hts inX0 hown hK hW hτ (by decide) rfl rfl 1 (by decide) (hts (.fieldLink RX0 22 "HalfTickets$History" "next" "I") (List.mem_of_getElem? (i := 1) (by decide +kernel))) (fun _ h9 => h9) rfl dX0_remember_32 ?_
    refine lv_iconst (v := (nI 1)) hx hb dX0_remember_35 (by decide) ?_
    refine lv_iadd hx hb dX0_remember_36 ?_
    refine xg_put (κ := 10) (ci := 0) (C := RX0) (T := TX0) (N := 3) hx hb hts inX0 tyX0 tyX0_ok nmX0 hown hK O hW hS hτ (by decide) rfl rfl 1 (by decide) (v := ((M_8 h 1) + (nI 1))) rfl trivial (hts (.fieldLink RX0 22 "HalfTickets$History" "next" "I") (List.mem_of_getElem? (i := 1) (by decide +kernel))) (fun _ h9 => h9) rfl (ty := .int) (by decide +kernel) rfl rfl (Nat.le_of_ble_eq_true rfl) dX0_remember_37 (fun H locs hW hS => ?_)
    obtain ⟨M_11, eM_11⟩ : ∃ M9, M9 = xu_p M_8 h 1 ((M_8 h 1) + (nI 1)) := ⟨_, rfl⟩
    rw [← eM_11] at hW
    refine lv_aload_n hx hb dX0_remember_40 rfl (lv_at hl 0 rfl) ?_
    refine lv_aload_n hx hb dX0_remember_41 rfl (lv_at hl 0 rfl) ?_
    refine xg_get (κ := 10) (ci := 0) (C := RX0) (T := TX0) (N := 3) hx hb hts inX0 hown hK hW hτ (by decide) rfl rfl 2 (by decide) (hts (.fieldLink RX0 18 "HalfTickets$History" "kept" "I") (List.mem_of_getElem? (i := 3) (by decide +kernel))) (fun _ h9 => h9) rfl dX0_remember_42 ?_
    refine lv_iconst (v := (nI 1)) hx hb dX0_remember_45 (by decide) ?_
    refine lv_iadd hx hb dX0_remember_46 ?_
    refine lv_aload_n hx hb dX0_remember_47 rfl (lv_at hl 0 rfl) ?_
    refine xg_get (κ := 10) (ci := 0) (C := RX0) (T := TX0) (N := 3) hx hb hts inX0 hown hK hW hτ (by decide) rfl rfl 0 (by decide) (hts (.fieldLink RX0 11 "HalfTickets$History" "states" "[LHalfTickets$Ministry;") (List.mem_of_getElem? (i := 2) (by decide +kernel))) (fun _ h9 => h9) rfl dX0_remember_48 ?_
    refine xg_alen (κ := 11) (v := nI 6) hx hb hK hW (O.h1 hτ) (by decide) rfl 5 rfl rfl dX0_remember_51 ?_
    refine va_mmin hx hb (by rw [hml]; exact hl.1.symm) hown (hts (.methodLink RX0 29 Lib.Math.min.name) (List.mem_of_getElem? (i := 4) (by decide +kernel))) (hts (.static Lib.Math.min.name) (List.mem_of_getElem? (i := 5) (by decide +kernel))) (hts (.initialized "java/lang/Math") (List.mem_of_getElem? (i := 6) (by decide +kernel))) (hts (.code Lib.Math.min.name Lib.Math.min.code 2 (some .int)) (List.mem_of_getElem? (i := 7) (by decide +kernel))) (Nat.le_of_ble_eq_true rfl) (Nat.le_of_ble_eq_true rfl) (Nat.zero_le _) (Nat.zero_le _) dX0_remember_52 ?_
    refine xg_put (κ := 10) (ci := 0) (C := RX0) (T := TX0) (N := 3) hx hb hts inX0 tyX0 tyX0_ok nmX0 hown hK O hW hS hτ (by decide) rfl rfl 2 (by decide) (v := (if (nI 6) < ((M_11 h 2) + (nI 1)) then (nI 6) else ((M_11 h 2) + (nI 1)))) rfl trivial (hts (.fieldLink RX0 18 "HalfTickets$History" "kept" "I") (List.mem_of_getElem? (i := 3) (by decide +kernel))) (fun _ h9 => h9) rfl (ty := .int) (by decide +kernel) rfl rfl (Nat.le_of_ble_eq_true rfl) dX0_remember_55 (fun H locs hW hS => ?_)
    obtain ⟨M_12, eM_12⟩ : ∃ M9, M9 = xu_p M_11 h 2 (if (nI 6) < ((M_11 h 2) + (nI 1)) then (nI 6) else ((M_11 h 2) + (nI 1))) := ⟨_, rfl⟩
    rw [← eM_12] at hW
    have hpost : xf_rem M M_12 h := by
        have g1 : ∀ x, x ≠ h → M_12 x = M_8 x := fun x hx => by rw [eM_12, xu_p, xr_n _ _ hx, eM_11, xu_p, xr_n _ _ hx]
        refine ⟨⟨j + 1, by omega, ?_⟩, fun x hx => ?_, fun i hi k hk => ?_⟩
        · rw [eM_12, xu_n _ (Or.inr (by decide)), eM_11, xu_s, hc1, hMj]
          exact nI_1 j
        · rw [g1 x (by omega)]
          exact hc2 x hx
        · rw [g1 _ (by omega)]
          exact hc3 i hi k hk
    exact W.vret hx hb hr (fun t ht hWm => ⟨⟨M_12, rfl, hpost, xw_end ht hW⟩, hS.F ht⟩) hS.2.2 dX0_remember_58
