theorem xs_1c {k : Nat} : xs_1 k = if k = 0 then 1 else 0 := rfl
theorem xa_set_k {k : Nat} (hk : k < 3) (v : Int32) : xa_set (nI k) v = if v < xs_1 k then -2 else if v ≤ xs_2 k then xs_0 k else -2 := by
  unfold xa_set
  rw [if_neg (nI_pos (by omega)), if_pos (nI_lt hk (by decide)), nI_clamp (by omega)]

set_option maxHeartbeats 4000000 in
set_option maxRecDepth 100000 in
/-- isSetting -/
theorem cm_isSetting (l : Launch) {G : va_G} {g : Nat → ClassId} {t0 τ : Nat → Nat} {A : Nat → Prop} (O : xk_O τ A) (M : xm_T) (i v : Int32) : Met l yX7_isSetting wsX7_isSetting ({ frames := 1, cells := 0, slots := 0, locals := 40 }) (va_Pc [.int i, .int v] (xS_t G g t0 τ A M)) (va_Qi (fun b M' => ((b = nI 0 ∧ xa_set i v = -2) ∨ (b = nI 1 ∧ ∃ k, k < 3 ∧ i = nI k ∧ xa_set i v = xs_0 k)) ∧ M' = M) (fun M' t => xw_D G g τ M' t.heap) A) 0 0 A := by
  refine Met.ofW (cc := cX7_isSetting) (maxL := 2) (ret := (some .boolean)) (by decide) rfl ?_
  intro p e s m args below meth c s₁ B hml hv
  obtain ⟨rfl, hW, hK, hst, hnw⟩ := hv
  have hx := B.exec
  have hb := B.bytes
  have hr := B.returns
  have hts := atoms_spec (ws := wsX7_isSetting) B.pre
  have hown : s.vm.findClass RX7 = some m.cls := findClass_of_methodNamed B.named
  have hlocks := B.notSynchronized
  have hS : va_S A s.heap s.heap [] := va_S.rf
  have hl := lv_entry ([.int i, .int v]) (n := 2) (Nat.le_of_ble_eq_true rfl)
  rw [lg_entry_eq]
  generalize (lg_sl ([.int i, .int v]) ++ List.replicate (2 - (lg_sl ([.int i, .int v])).length) Slot.unset).toArray = ls at hl ⊢
  have hl : lv_has ls 2 [(0, .int i), (1, .int v)] := hl
  rcases pk_ix i (n := 3) (by omega) with hlo | hhi | ⟨k, hk, rfl⟩
  · refine lv_iload_n hx hb dX7_isSetting_0 rfl (lv_at hl 0 rfl) ?_
    refine lv_tableOut (tgt := 58) hx hb dX7_isSetting_1 (xi_tlo hlo rfl) (by decide) ?_
    refine lv_iconst (v := (nI 0)) hx hb dX7_isSetting_58 (by decide) ?_
    exact W.zret (v := (nI 0)) hx hb hr rfl (fun t ht hWm => ⟨⟨(nI 0), M, rfl, ⟨Or.inl ⟨rfl, by unfold xa_set; rw [if_pos hlo]⟩, rfl⟩, xw_end ht hW⟩, hS.F ht⟩) hS.2.2 dX7_isSetting_59
  · refine lv_iload_n hx hb dX7_isSetting_0 rfl (lv_at hl 0 rfl) ?_
    refine lv_tableOut (tgt := 58) hx hb dX7_isSetting_1 (xi_thi hhi (by decide) rfl) (by decide) ?_
    refine lv_iconst (v := (nI 0)) hx hb dX7_isSetting_58 (by decide) ?_
    exact W.zret (v := (nI 0)) hx hb hr rfl (fun t ht hWm => ⟨⟨(nI 0), M, rfl, ⟨Or.inl ⟨rfl, by unfold xa_set; rw [if_neg (xi_hi hhi (by decide)), if_neg (Int32.not_lt.mpr hhi)]⟩, rfl⟩, xw_end ht hW⟩, hS.F ht⟩) hS.2.2 dX7_isSetting_59
  · rcases (show k = 0 ∨ k = 1 ∨ k = 2 by omega) with rfl | rfl | rfl
    · refine lv_iload_n hx hb dX7_isSetting_0 rfl (lv_at hl 0 rfl) ?_
      refine lv_tableIn (off := 27) (tgt := 28) hx hb dX7_isSetting_1 (by decide) (by decide) (by decide) (by decide) ?_
      refine lv_iload_n hx hb dX7_isSetting_28 rfl (lv_at hl 1 rfl) ?_
      refine lv_i2l (v := (v).toInt64) hx hb dX7_isSetting_29 rfl ?_
      refine lv_lconst (v := 1) hx hb dX7_isSetting_30 rfl ?_
      refine lv_ldc2 (v := 6) hx hb hown (hts (.constantLong RX7 96 (6)) (List.mem_of_getElem? (i := 1) (by decide +kernel))) dX7_isSetting_31 ?_
      refine xc_i (xr_S (As := [.long (v).toInt64, .long (1 : Int64), .long (6 : Int64)]) (rest := []) ⟨hx, hb, hml, hown, hts⟩ (c_X7_in l O M (v).toInt64 (1 : Int64) (6 : Int64)) (va_cwS 3 hts gX7_isSetting_X7_in rfl rfl rfl (by decide +kernel) ⟨Nat.le_of_ble_eq_true rfl, Nat.le_of_ble_eq_true rfl⟩) hK hst hnw hS hW rfl hl.1 rfl (Nat.le_of_ble_eq_true rfl) dX7_isSetting_34 ⟨Nat.zero_le _, Nat.zero_le _⟩) hS (fun r_3 M_1 H locs hq_2 hW hS => ?_)
      obtain ⟨hq_2a, hq_2b⟩ := hq_2
      rw [hq_2b] at hW
      rw [hq_2a]
      exact W.zret (v := (xr_in (v).toInt64 (1 : Int64) (6 : Int64))) hx hb hr (xb_nar (xr_01 _ _ _)) (fun t ht hWm => ⟨⟨(xr_in (v).toInt64 (1 : Int64) (6 : Int64)), M, rfl, ⟨(by
            rw [xa_set_k (by decide), xr_in_i v (nI 1) (nI 6) (by decide) (by decide)]
            by_cases h1 : v < nI 1
            · rw [if_pos h1]; exact Or.inl ⟨rfl, if_pos h1⟩
            · rw [if_neg h1]
              by_cases h2 : v ≤ nI 6
              · rw [if_pos h2]; exact Or.inr ⟨rfl, 0, by decide, rfl, (if_neg h1).trans (if_pos h2)⟩
              · rw [if_neg h2]; exact Or.inl ⟨rfl, (if_neg h1).trans (if_neg h2)⟩), rfl⟩, xw_end ht hW⟩, hS.F ht⟩) hS.2.2 dX7_isSetting_37
    · refine lv_iload_n hx hb dX7_isSetting_0 rfl (lv_at hl 0 rfl) ?_
      refine lv_tableIn (off := 37) (tgt := 38) hx hb dX7_isSetting_1 (by decide) (by decide) (by decide) (by decide) ?_
      refine lv_iload_n hx hb dX7_isSetting_38 rfl (lv_at hl 1 rfl) ?_
      refine lv_i2l (v := (v).toInt64) hx hb dX7_isSetting_39 rfl ?_
      refine lv_lconst (v := 0) hx hb dX7_isSetting_40 rfl ?_
      refine lv_ldc2 (v := 20) hx hb hown (hts (.constantLong RX7 98 (20)) (List.mem_of_getElem? (i := 2) (by decide +kernel))) dX7_isSetting_41 ?_
      refine xc_i (xr_S (As := [.long (v).toInt64, .long (0 : Int64), .long (20 : Int64)]) (rest := []) ⟨hx, hb, hml, hown, hts⟩ (c_X7_in l O M (v).toInt64 (0 : Int64) (20 : Int64)) (va_cwS 3 hts gX7_isSetting_X7_in rfl rfl rfl (by decide +kernel) ⟨Nat.le_of_ble_eq_true rfl, Nat.le_of_ble_eq_true rfl⟩) hK hst hnw hS hW rfl hl.1 rfl (Nat.le_of_ble_eq_true rfl) dX7_isSetting_44 ⟨Nat.zero_le _, Nat.zero_le _⟩) hS (fun r_6 M_4 H locs hq_5 hW hS => ?_)
      obtain ⟨hq_5a, hq_5b⟩ := hq_5
      rw [hq_5b] at hW
      rw [hq_5a]
      exact W.zret (v := (xr_in (v).toInt64 (0 : Int64) (20 : Int64))) hx hb hr (xb_nar (xr_01 _ _ _)) (fun t ht hWm => ⟨⟨(xr_in (v).toInt64 (0 : Int64) (20 : Int64)), M, rfl, ⟨(by
            rw [xa_set_k (by decide), xr_in_i v (nI 0) (nI 20) (by decide) (by decide)]
            by_cases h1 : v < nI 0
            · rw [if_pos h1]; exact Or.inl ⟨rfl, if_pos h1⟩
            · rw [if_neg h1]
              by_cases h2 : v ≤ nI 20
              · rw [if_pos h2]; exact Or.inr ⟨rfl, 1, by decide, rfl, (if_neg h1).trans (if_pos h2)⟩
              · rw [if_neg h2]; exact Or.inl ⟨rfl, (if_neg h1).trans (if_neg h2)⟩), rfl⟩, xw_end ht hW⟩, hS.F ht⟩) hS.2.2 dX7_isSetting_47
    · refine lv_iload_n hx hb dX7_isSetting_0 rfl (lv_at hl 0 rfl) ?_
      refine lv_tableIn (off := 47) (tgt := 48) hx hb dX7_isSetting_1 (by decide) (by decide) (by decide) (by decide) ?_
      refine lv_iload_n hx hb dX7_isSetting_48 rfl (lv_at hl 1 rfl) ?_
      refine lv_i2l (v := (v).toInt64) hx hb dX7_isSetting_49 rfl ?_
      refine lv_lconst (v := 0) hx hb dX7_isSetting_50 rfl ?_
      refine lv_ldc2 (v := 60) hx hb hown (hts (.constantLong RX7 100 (60)) (List.mem_of_getElem? (i := 3) (by decide +kernel))) dX7_isSetting_51 ?_
      refine xc_i (xr_S (As := [.long (v).toInt64, .long (0 : Int64), .long (60 : Int64)]) (rest := []) ⟨hx, hb, hml, hown, hts⟩ (c_X7_in l O M (v).toInt64 (0 : Int64) (60 : Int64)) (va_cwS 3 hts gX7_isSetting_X7_in rfl rfl rfl (by decide +kernel) ⟨Nat.le_of_ble_eq_true rfl, Nat.le_of_ble_eq_true rfl⟩) hK hst hnw hS hW rfl hl.1 rfl (Nat.le_of_ble_eq_true rfl) dX7_isSetting_54 ⟨Nat.zero_le _, Nat.zero_le _⟩) hS (fun r_9 M_7 H locs hq_8 hW hS => ?_)
      obtain ⟨hq_8a, hq_8b⟩ := hq_8
      rw [hq_8b] at hW
      rw [hq_8a]
      exact W.zret (v := (xr_in (v).toInt64 (0 : Int64) (60 : Int64))) hx hb hr (xb_nar (xr_01 _ _ _)) (fun t ht hWm => ⟨⟨(xr_in (v).toInt64 (0 : Int64) (60 : Int64)), M, rfl, ⟨(by
            rw [xa_set_k (by decide), xr_in_i v (nI 0) (nI 60) (by decide) (by decide)]
            by_cases h1 : v < nI 0
            · rw [if_pos h1]; exact Or.inl ⟨rfl, if_pos h1⟩
            · rw [if_neg h1]
              by_cases h2 : v ≤ nI 60
              · rw [if_pos h2]; exact Or.inr ⟨rfl, 2, by decide, rfl, (if_neg h1).trans (if_pos h2)⟩
              · rw [if_neg h2]; exact Or.inl ⟨rfl, (if_neg h1).trans (if_neg h2)⟩), rfl⟩, xw_end ht hW⟩, hS.F ht⟩) hS.2.2 dX7_isSetting_57

set_option maxHeartbeats 4000000 in
set_option maxRecDepth 100000 in
/-- HalfTicketsModel.set, new -/
theorem cm_set (l : Launch) {G : va_G} {g : Nat → ClassId} {t0 τ : Nat → Nat} {A : Nat → Prop} (O : xk_O τ A) (M : xm_T) (r : Nat) (hτ : τ r = 20) (hF : xr_F M r) (i v : Int32) : Met l yX7_set wsX7_set ({ frames := 5, cells := 0, slots := 0, locals := 160 }) (va_Pc [.ref r, .int i, .int v] (xS_t G g t0 τ A M)) (va_Qi (fun b M' => b = xa_set i v) (fun M' t => xw_D G g τ M' t.heap) A) 0 0 A := by
  refine Met.ofW (cc := cX7_set) (maxL := 4) (ret := (some .int)) (by decide) rfl ?_
  intro p e s m args below meth c s₁ B hml hv
  obtain ⟨rfl, hW, hK, hst, hnw⟩ := hv
  have hx := B.exec
  have hb := B.bytes
  have hr := B.returns
  have hts := atoms_spec (ws := wsX7_set) B.pre
  have hown : s.vm.findClass RX7 = some m.cls := findClass_of_methodNamed B.named
  have hlocks := B.notSynchronized
  have hS : va_S A s.heap s.heap [] := va_S.rf
  have inX7 : ∀ w ∈ u_ws RX7 TX7 12, w ∈ wsX7_set := by decide +kernel
  have hl := lv_entry ([.ref r, .int i, .int v]) (n := 4) (Nat.le_of_ble_eq_true rfl)
  rw [lg_entry_eq]
  generalize (lg_sl ([.ref r, .int i, .int v]) ++ List.replicate (4 - (lg_sl ([.ref r, .int i, .int v])).length) Slot.unset).toArray = ls at hl ⊢
  have hl : lv_has ls 4 [(0, .ref r), (1, .int i), (2, .int v)] := hl
  refine lv_iload_n hx hb dX7_set_0 rfl (lv_at hl 1 rfl) ?_
  refine lv_iload_n hx hb dX7_set_1 rfl (lv_at hl 2 rfl) ?_
  refine xc_i (xr_S (As := [.int i, .int v]) (rest := []) ⟨hx, hb, hml, hown, hts⟩ (cm_isSetting l O M i v) (va_cwS 2 hts gX7_set_X7_isSetting rfl rfl rfl (by decide +kernel) ⟨Nat.le_of_ble_eq_true rfl, Nat.le_of_ble_eq_true rfl⟩) hK hst hnw hS hW rfl hl.1 rfl (Nat.le_of_ble_eq_true rfl) dX7_set_2 ⟨Nat.zero_le _, Nat.zero_le _⟩) hS (fun r_3 M_1 H locs hq_2 hW hS => ?_)
  obtain ⟨hqo, hqb⟩ := hq_2
  rw [hqb] at hW
  rcases hqo with ⟨hq0, hres⟩ | ⟨hq0, k, hk, rfl, hres⟩
  · subst hq0
    refine lv_if_ne (tgt := 11) hx hb dX7_set_5 (by decide) (fun c_4 => ?_) (fun c_4 => ?_)
    · exact absurd c_4 (by decide)
    · refine lv_bipush (v := (-2)) hx hb dX7_set_8 (by decide) ?_
      exact W.iret (v := (-2)) hx hb hr (fun t ht hWm => ⟨⟨(-2), M, rfl, hres.symm, xw_end ht hW⟩, hS.F ht⟩) hS.2.2 dX7_set_10
  · subst hq0
    refine lv_if_ne (tgt := 11) hx hb dX7_set_5 (by decide) (fun c_5 => ?_) (fun c_5 => ?_)
    · refine lv_aload_n hx hb dX7_set_11 rfl (lv_at hl 0 rfl) ?_
      refine xc_v (xr_V (As := []) (rest := []) (κ := 20) ⟨hx, hb, hml, hown, hts⟩ (c_X7_changes l O M r hτ hF.2.1) (cwV 0 hts gX7_set_X7_changes rfl rfl rfl (by decide +kernel) ⟨Nat.le_of_ble_eq_true rfl, Nat.le_of_ble_eq_true rfl⟩) hK hst hnw hS hW hτ (by decide) rfl rfl rfl hl.1 rfl (Nat.le_of_ble_eq_true rfl) dX7_set_12 ⟨Nat.zero_le _, Nat.zero_le _⟩) hS (fun M_6 H locs hq_7 hW hS => ?_)
      have hu : ∀ x, x ≠ r → x ≠ r + 3 → M_6 x = M x := hq_7
      refine lv_aload_n hx hb dX7_set_15 rfl (lv_at hl 0 rfl) ?_
      refine xg_get (κ := 20) (ci := 7) (C := RX7) (T := TX7) (N := 12) hx hb hts inX7 hown hK hW hτ (by decide) rfl rfl 0 (by decide) (hts (.fieldLink RX7 7 "HalfTicketsModel" "all" "[I") (List.mem_of_getElem? (i := 1) (by decide +kernel))) (fun _ h9 => h9) rfl dX7_set_16 ?_
      refine lv_iload_n hx hb dX7_set_19 rfl (lv_at hl 1 rfl) ?_
      refine xg_iald (κ := 426) (n := 326) hx hb hK hW (O.n1 hτ) (by decide) rfl k rfl (by omega) (by decide) dX7_set_20 ?_
      refine lv_istore_n (lv' := [(3, .int (M_6 (r + 1) k)), (0, .ref r), (1, .int (nI k)), (2, .int v)]) hx hb dX7_set_21 rfl hl (by decide) rfl (fun ls hl => ?_)
      refine lv_aload_n hx hb dX7_set_22 rfl (lv_at hl 1 rfl) ?_
      refine xg_get (κ := 20) (ci := 7) (C := RX7) (T := TX7) (N := 12) hx hb hts inX7 hown hK hW hτ (by decide) rfl rfl 0 (by decide) (hts (.fieldLink RX7 7 "HalfTicketsModel" "all" "[I") (List.mem_of_getElem? (i := 1) (by decide +kernel))) (fun _ h9 => h9) rfl dX7_set_23 ?_
      refine lv_iload_n hx hb dX7_set_26 rfl (lv_at hl 2 rfl) ?_
      refine lv_iload_n hx hb dX7_set_27 rfl (lv_at hl 3 rfl) ?_
      refine xg_iast (κ := 426) (n := 326) hx hb hK O hW hS (O.n1 hτ) (by decide) (fun _ => rfl) (fun _ => trivial) k rfl (by omega) (by decide) dX7_set_28 (fun H locs hW hS => ?_)
      obtain ⟨M_9, eM_9⟩ : ∃ M9, M9 = xu_p M_6 (r + 1) k v := ⟨_, rfl⟩
      rw [← eM_9] at hW
      refine lv_iload_n hx hb dX7_set_29 rfl (lv_at hl 0 rfl) ?_
      exact W.iret (v := (M_6 (r + 1) k)) hx hb hr (fun t ht hWm => ⟨⟨(M_6 (r + 1) k), M_9, rfl, (by rw [hu _ (by omega) (by omega), hF.1 k (by omega), hres]; rcases (show k = 0 ∨ k = 1 ∨ k = 2 by omega) with rfl | rfl | rfl <;> decide), xw_end ht hW⟩, hS.F ht⟩) hS.2.2 dX7_set_30
    · exact absurd c_5 (by decide)

set_option maxHeartbeats 4000000 in
set_option maxRecDepth 100000 in
/-- HalfTicketsModel.window, new -/
theorem cm_window (l : Launch) {G : va_G} {g : Nat → ClassId} {t0 τ : Nat → Nat} {A : Nat → Prop} (O : xk_O τ A) (M : xm_T) (r : Nat) (hτ : τ r = 20) (hF : xr_F M r) (i v : Int32) (hv : xb_01 v) : Met l yX7_window wsX7_window ({ frames := 5, cells := 0, slots := 0, locals := 160 }) (va_Pc [.ref r, .int i, .int v] (xS_t G g t0 τ A M)) (va_Qi (fun b M' => b = xa_win i v) (fun M' t => xw_D G g τ M' t.heap) A) 0 0 A := by
  refine Met.ofW (cc := cX7_window) (maxL := 3) (ret := (some .int)) (by decide) rfl ?_
  intro p e s m args below meth c s₁ B hml hv
  obtain ⟨rfl, hW, hK, hst, hnw⟩ := hv
  have hx := B.exec
  have hb := B.bytes
  have hr := B.returns
  have hts := atoms_spec (ws := wsX7_window) B.pre
  have hown : s.vm.findClass RX7 = some m.cls := findClass_of_methodNamed B.named
  have hlocks := B.notSynchronized
  have hS : va_S A s.heap s.heap [] := va_S.rf
  have inX7 : ∀ w ∈ u_ws RX7 TX7 12, w ∈ wsX7_window := by decide +kernel
  have hl := lv_entry ([.ref r, .int i, .int v]) (n := 3) (Nat.le_of_ble_eq_true rfl)
  rw [lg_entry_eq]
  generalize (lg_sl ([.ref r, .int i, .int v]) ++ List.replicate (3 - (lg_sl ([.ref r, .int i, .int v])).length) Slot.unset).toArray = ls at hl ⊢
  have hl : lv_has ls 3 [(0, .ref r), (1, .int i), (2, .int v)] := hl
  rcases pk_ix i (n := 6) (by omega) with hlo | hhi | ⟨k, hk, rfl⟩
  · have hres : (-1 : Int32) = xa_win i v := by unfold xa_win; rw [if_pos (Or.inl hlo)]
    refine lv_iload_n hx hb dX7_window_0 rfl (lv_at hl 1 rfl) ?_
    refine xc_i (xr_S (As := [.int i]) (rest := []) ⟨hx, hb, hml, hown, hts⟩ (c_X7_isWindow l O M i) (va_cwS 1 hts gX7_window_X7_isWindow rfl rfl rfl (by decide +kernel) ⟨Nat.le_of_ble_eq_true rfl, Nat.le_of_ble_eq_true rfl⟩) hK hst hnw hS hW rfl hl.1 rfl (Nat.le_of_ble_eq_true rfl) dX7_window_1 ⟨Nat.zero_le _, Nat.zero_le _⟩) hS (fun r_3 M_1 H locs hq_2 hW hS => ?_)
    obtain ⟨hq_2a, hq_2b⟩ := hq_2
    rw [hq_2b] at hW
    rw [hq_2a]
    rw [xr_w_lo hlo]
    refine lv_if_ne (tgt := 9) hx hb dX7_window_4 (by decide) (fun c_4 => ?_) (fun c_4 => ?_)
    · exact absurd c_4 (by decide)
    · refine lv_iconst (v := (-1)) hx hb dX7_window_7 (by decide) ?_
      exact W.iret (v := (-1)) hx hb hr (fun t ht hWm => ⟨⟨(-1), M, rfl, hres, xw_end ht hW⟩, hS.F ht⟩) hS.2.2 dX7_window_8
  · have hres : (-1 : Int32) = xa_win i v := by unfold xa_win; rw [if_pos (Or.inr hhi)]
    refine lv_iload_n hx hb dX7_window_0 rfl (lv_at hl 1 rfl) ?_
    refine xc_i (xr_S (As := [.int i]) (rest := []) ⟨hx, hb, hml, hown, hts⟩ (c_X7_isWindow l O M i) (va_cwS 1 hts gX7_window_X7_isWindow rfl rfl rfl (by decide +kernel) ⟨Nat.le_of_ble_eq_true rfl, Nat.le_of_ble_eq_true rfl⟩) hK hst hnw hS hW rfl hl.1 rfl (Nat.le_of_ble_eq_true rfl) dX7_window_1 ⟨Nat.zero_le _, Nat.zero_le _⟩) hS (fun r_7 M_5 H locs hq_6 hW hS => ?_)
    obtain ⟨hq_6a, hq_6b⟩ := hq_6
    rw [hq_6b] at hW
    rw [hq_6a]
    rw [xr_w_hi hhi]
    refine lv_if_ne (tgt := 9) hx hb dX7_window_4 (by decide) (fun c_8 => ?_) (fun c_8 => ?_)
    · exact absurd c_8 (by decide)
    · refine lv_iconst (v := (-1)) hx hb dX7_window_7 (by decide) ?_
      exact W.iret (v := (-1)) hx hb hr (fun t ht hWm => ⟨⟨(-1), M, rfl, hres, xw_end ht hW⟩, hS.F ht⟩) hS.2.2 dX7_window_8
  · have hni : ¬ (nI k < 0 ∨ nI 6 ≤ nI k) := fun q => q.elim (nI_pos (by omega)) (nI_ge hk (by decide))
    refine lv_iload_n hx hb dX7_window_0 rfl (lv_at hl 1 rfl) ?_
    refine xc_i (xr_S (As := [.int (nI k)]) (rest := []) ⟨hx, hb, hml, hown, hts⟩ (c_X7_isWindow l O M (nI k)) (va_cwS 1 hts gX7_window_X7_isWindow rfl rfl rfl (by decide +kernel) ⟨Nat.le_of_ble_eq_true rfl, Nat.le_of_ble_eq_true rfl⟩) hK hst hnw hS hW rfl hl.1 rfl (Nat.le_of_ble_eq_true rfl) dX7_window_1 ⟨Nat.zero_le _, Nat.zero_le _⟩) hS (fun r_11 M_9 H locs hq_10 hW hS => ?_)
    obtain ⟨hq_10a, hq_10b⟩ := hq_10
    rw [hq_10b] at hW
    rw [hq_10a]
    rw [xr_w_k hk]
    refine lv_if_ne (tgt := 9) hx hb dX7_window_4 (by decide) (fun c_12 => ?_) (fun c_12 => ?_)
    · refine lv_aload_n hx hb dX7_window_9 rfl (lv_at hl 0 rfl) ?_
      refine xg_get (κ := 20) (ci := 7) (C := RX7) (T := TX7) (N := 12) hx hb hts inX7 hown hK hW hτ (by decide) rfl rfl 0 (by decide) (hts (.fieldLink RX7 7 "HalfTicketsModel" "all" "[I") (List.mem_of_getElem? (i := 1) (by decide +kernel))) (fun _ h9 => h9) rfl dX7_window_10 ?_
      refine lv_bipush (v := (nI 8)) hx hb dX7_window_13 (by decide) ?_
      refine lv_iload_n hx hb dX7_window_15 rfl (lv_at hl 1 rfl) ?_
      refine lv_iadd hx hb dX7_window_16 ?_
      refine xg_iald (κ := 426) (n := 326) hx hb hK hW (O.n1 hτ) (by decide) rfl (8 + k) (nI_add 8 k) (by omega) (by decide) dX7_window_17 ?_
      refine lv_iconst (v := (nI 1)) hx hb dX7_window_18 (by decide) ?_
      refine lv_icmp_ne (tgt := 26) hx hb dX7_window_19 (by decide) (fun c_13 => ?_) (fun c_13 => ?_)
      · exact absurd ((hF.1 (8 + k) (by omega)).trans (xm_1 (by omega))) c_13
      · refine lv_iconst (v := (nI 1)) hx hb dX7_window_22 (by decide) ?_
        refine lv_goto (tgt := 27) hx hb dX7_window_23 (by decide) ?_
        refine lv_iload_n hx hb dX7_window_27 rfl (lv_at hl 2 rfl) ?_
        refine lv_icmp_ne (tgt := 34) hx hb dX7_window_28 (by decide) (fun c_14 => ?_) (fun c_14 => ?_)
        · refine lv_aload_n hx hb dX7_window_34 rfl (lv_at hl 0 rfl) ?_
          refine xc_v (xr_V (As := []) (rest := []) (κ := 20) ⟨hx, hb, hml, hown, hts⟩ (c_X7_changes l O M r hτ hF.2.1) (cwV 0 hts gX7_window_X7_changes rfl rfl rfl (by decide +kernel) ⟨Nat.le_of_ble_eq_true rfl, Nat.le_of_ble_eq_true rfl⟩) hK hst hnw hS hW hτ (by decide) rfl rfl rfl hl.1 rfl (Nat.le_of_ble_eq_true rfl) dX7_window_35 ⟨Nat.zero_le _, Nat.zero_le _⟩) hS (fun M_15 H locs hq_16 hW hS => ?_)
          have hu : ∀ x, x ≠ r → x ≠ r + 3 → M_15 x = M x := hq_16
          refine lv_aload_n hx hb dX7_window_38 rfl (lv_at hl 0 rfl) ?_
          refine xg_get (κ := 20) (ci := 7) (C := RX7) (T := TX7) (N := 12) hx hb hts inX7 hown hK hW hτ (by decide) rfl rfl 0 (by decide) (hts (.fieldLink RX7 7 "HalfTicketsModel" "all" "[I") (List.mem_of_getElem? (i := 1) (by decide +kernel))) (fun _ h9 => h9) rfl dX7_window_39 ?_
          refine lv_bipush (v := (nI 8)) hx hb dX7_window_42 (by decide) ?_
          refine lv_iload_n hx hb dX7_window_44 rfl (lv_at hl 1 rfl) ?_
          refine lv_iadd hx hb dX7_window_45 ?_
          refine lv_iload_n hx hb dX7_window_46 rfl (lv_at hl 2 rfl) ?_
          refine lv_if_eq (tgt := 54) hx hb dX7_window_47 (by decide) (fun c_18 => ?_) (fun c_18 => ?_)
          · refine lv_iconst (v := (nI 0)) hx hb dX7_window_54 (by decide) ?_
            refine xg_iast (κ := 426) (n := 326) hx hb hK O hW hS (O.n1 hτ) (by decide) (fun _ => rfl) (fun _ => trivial) (8 + k) (nI_add 8 k) (by omega) (by decide) dX7_window_55 (fun H locs hW hS => ?_)
            obtain ⟨M_19, eM_19⟩ : ∃ M9, M9 = xu_p M_15 (r + 1) (8 + k) (nI 0) := ⟨_, rfl⟩
            rw [← eM_19] at hW
            refine lv_aload_n hx hb dX7_window_56 rfl (lv_at hl 0 rfl) ?_
            refine lv_bipush (v := (nI 8)) hx hb dX7_window_57 (by decide) ?_
            refine xc_i (xr_V (As := [.int (nI 8)]) (rest := []) (κ := 20) ⟨hx, hb, hml, hown, hts⟩ (c_X7_sum l O M_19 r hτ (o := 8) (by decide)) (cwV 1 hts gX7_window_X7_sum rfl rfl rfl (by decide +kernel) ⟨Nat.le_of_ble_eq_true rfl, Nat.le_of_ble_eq_true rfl⟩) hK hst hnw hS hW hτ (by decide) rfl rfl rfl hl.1 rfl (Nat.le_of_ble_eq_true rfl) dX7_window_59 ⟨Nat.zero_le _, Nat.zero_le _⟩) hS (fun r_22 M_20 H locs hq_21 hW hS => ?_)
            obtain ⟨hq_21a, hq_21b⟩ := hq_21
            rw [hq_21b] at hW
            rw [hq_21a]
            exact W.iret (v := (xf_sum (fun k => M_19 (r + 1) (8 + k)) 6)) hx hb hr (fun t ht hWm => ⟨⟨(xf_sum (fun k => M_19 (r + 1) (8 + k)) 6), M_19, rfl, (by
                  unfold xa_win
                  rw [if_neg hni, if_neg (fun z => c_14 z.symm)]
                  have hs : ∀ j, j < 6 → M_19 (r + 1) (8 + j) = if j = k then nI 0 else nI 1 := fun j hj => by
                    rw [eM_19]
                    by_cases hjk : j = k
                    · subst hjk
                      rw [xu_s, if_pos rfl]
                    · rw [xu_n _ (Or.inr (by omega)), hu _ (by omega) (by omega), hF.1 _ (by omega), xm_1 (by omega), if_neg hjk]
                  rw [xf_sum_c hs]
                  rcases (show k = 0 ∨ k = 1 ∨ k = 2 ∨ k = 3 ∨ k = 4 ∨ k = 5 by omega) with rfl | rfl | rfl | rfl | rfl | rfl <;> rfl), xw_end ht hW⟩, hS.F ht⟩) hS.2.2 dX7_window_62
          · exact absurd (hv.elim (fun z => z) (fun z => absurd z.symm c_14)) c_18
        · refine lv_bipush (v := (-5)) hx hb dX7_window_31 (by decide) ?_
          exact W.iret (v := (-5)) hx hb hr (fun t ht hWm => ⟨⟨(-5), M, rfl, (by unfold xa_win; rw [if_neg hni, if_pos c_14.symm]), xw_end ht hW⟩, hS.F ht⟩) hS.2.2 dX7_window_33
    · exact absurd c_12 (by decide)

set_option maxHeartbeats 4000000 in
set_option maxRecDepth 100000 in
/-- HalfTicketsModel.clerks, new -/
theorem cm_clerks (l : Launch) {G : va_G} {g : Nat → ClassId} {t0 τ : Nat → Nat} {A : Nat → Prop} (O : xk_O τ A) (M : xm_T) (r : Nat) (hτ : τ r = 20) (hF : xr_F M r) (i v : Int32) : Met l yX7_clerks wsX7_clerks ({ frames := 5, cells := 0, slots := 0, locals := 160 }) (va_Pc [.ref r, .int i, .int v] (xS_t G g t0 τ A M)) (va_Qi (fun b M' => b = xa_clk i v) (fun M' t => xw_D G g τ M' t.heap) A) 0 0 A := by
  refine Met.ofW (cc := cX7_clerks) (maxL := 4) (ret := (some .int)) (by decide) rfl ?_
  intro p e s m args below meth c s₁ B hml hv
  obtain ⟨rfl, hW, hK, hst, hnw⟩ := hv
  have hx := B.exec
  have hb := B.bytes
  have hr := B.returns
  have hts := atoms_spec (ws := wsX7_clerks) B.pre
  have hown : s.vm.findClass RX7 = some m.cls := findClass_of_methodNamed B.named
  have hlocks := B.notSynchronized
  have hS : va_S A s.heap s.heap [] := va_S.rf
  have inX7 : ∀ w ∈ u_ws RX7 TX7 12, w ∈ wsX7_clerks := by decide +kernel
  have hl := lv_entry ([.ref r, .int i, .int v]) (n := 4) (Nat.le_of_ble_eq_true rfl)
  rw [lg_entry_eq]
  generalize (lg_sl ([.ref r, .int i, .int v]) ++ List.replicate (4 - (lg_sl ([.ref r, .int i, .int v])).length) Slot.unset).toArray = ls at hl ⊢
  have hl : lv_has ls 4 [(0, .ref r), (1, .int i), (2, .int v)] := hl
  rcases pk_ix i (n := 6) (by omega) with hlo | hhi | ⟨k, hk, rfl⟩
  · have hres : (-1 : Int32) = xa_clk i v := by unfold xa_clk; rw [if_pos (Or.inl hlo)]
    refine lv_iload_n hx hb dX7_clerks_0 rfl (lv_at hl 1 rfl) ?_
    refine xc_i (xr_S (As := [.int i]) (rest := []) ⟨hx, hb, hml, hown, hts⟩ (c_X7_isWindow l O M i) (va_cwS 1 hts gX7_clerks_X7_isWindow rfl rfl rfl (by decide +kernel) ⟨Nat.le_of_ble_eq_true rfl, Nat.le_of_ble_eq_true rfl⟩) hK hst hnw hS hW rfl hl.1 rfl (Nat.le_of_ble_eq_true rfl) dX7_clerks_1 ⟨Nat.zero_le _, Nat.zero_le _⟩) hS (fun r_3 M_1 H locs hq_2 hW hS => ?_)
    obtain ⟨hq_2a, hq_2b⟩ := hq_2
    rw [hq_2b] at hW
    rw [hq_2a]
    rw [xr_w_lo hlo]
    refine lv_if_ne (tgt := 9) hx hb dX7_clerks_4 (by decide) (fun c_4 => ?_) (fun c_4 => ?_)
    · exact absurd c_4 (by decide)
    · refine lv_iconst (v := (-1)) hx hb dX7_clerks_7 (by decide) ?_
      exact W.iret (v := (-1)) hx hb hr (fun t ht hWm => ⟨⟨(-1), M, rfl, hres, xw_end ht hW⟩, hS.F ht⟩) hS.2.2 dX7_clerks_8
  · have hres : (-1 : Int32) = xa_clk i v := by unfold xa_clk; rw [if_pos (Or.inr hhi)]
    refine lv_iload_n hx hb dX7_clerks_0 rfl (lv_at hl 1 rfl) ?_
    refine xc_i (xr_S (As := [.int i]) (rest := []) ⟨hx, hb, hml, hown, hts⟩ (c_X7_isWindow l O M i) (va_cwS 1 hts gX7_clerks_X7_isWindow rfl rfl rfl (by decide +kernel) ⟨Nat.le_of_ble_eq_true rfl, Nat.le_of_ble_eq_true rfl⟩) hK hst hnw hS hW rfl hl.1 rfl (Nat.le_of_ble_eq_true rfl) dX7_clerks_1 ⟨Nat.zero_le _, Nat.zero_le _⟩) hS (fun r_7 M_5 H locs hq_6 hW hS => ?_)
    obtain ⟨hq_6a, hq_6b⟩ := hq_6
    rw [hq_6b] at hW
    rw [hq_6a]
    rw [xr_w_hi hhi]
    refine lv_if_ne (tgt := 9) hx hb dX7_clerks_4 (by decide) (fun c_8 => ?_) (fun c_8 => ?_)
    · exact absurd c_8 (by decide)
    · refine lv_iconst (v := (-1)) hx hb dX7_clerks_7 (by decide) ?_
      exact W.iret (v := (-1)) hx hb hr (fun t ht hWm => ⟨⟨(-1), M, rfl, hres, xw_end ht hW⟩, hS.F ht⟩) hS.2.2 dX7_clerks_8
  · have hni : ¬ (nI k < 0 ∨ nI 6 ≤ nI k) := fun q => q.elim (nI_pos (by omega)) (nI_ge hk (by decide))
    refine lv_iload_n hx hb dX7_clerks_0 rfl (lv_at hl 1 rfl) ?_
    refine xc_i (xr_S (As := [.int (nI k)]) (rest := []) ⟨hx, hb, hml, hown, hts⟩ (c_X7_isWindow l O M (nI k)) (va_cwS 1 hts gX7_clerks_X7_isWindow rfl rfl rfl (by decide +kernel) ⟨Nat.le_of_ble_eq_true rfl, Nat.le_of_ble_eq_true rfl⟩) hK hst hnw hS hW rfl hl.1 rfl (Nat.le_of_ble_eq_true rfl) dX7_clerks_1 ⟨Nat.zero_le _, Nat.zero_le _⟩) hS (fun r_11 M_9 H locs hq_10 hW hS => ?_)
    obtain ⟨hq_10a, hq_10b⟩ := hq_10
    rw [hq_10b] at hW
    rw [hq_10a]
    rw [xr_w_k hk]
    refine lv_if_ne (tgt := 9) hx hb dX7_clerks_4 (by decide) (fun c_12 => ?_) (fun c_12 => ?_)
    · refine lv_iload_n hx hb dX7_clerks_9 rfl (lv_at hl 2 rfl) ?_
      refine lv_i2l (v := (v).toInt64) hx hb dX7_clerks_10 rfl ?_
      refine lv_lconst (v := 0) hx hb dX7_clerks_11 rfl ?_
      refine lv_ldc2 (v := 3) hx hb hown (hts (.constantLong RX7 116 (3)) (List.mem_of_getElem? (i := 1) (by decide +kernel))) dX7_clerks_12 ?_
      refine xc_i (xr_S (As := [.long (v).toInt64, .long (0 : Int64), .long (3 : Int64)]) (rest := []) ⟨hx, hb, hml, hown, hts⟩ (c_X7_in l O M (v).toInt64 (0 : Int64) (3 : Int64)) (va_cwS 3 hts gX7_clerks_X7_in rfl rfl rfl (by decide +kernel) ⟨Nat.le_of_ble_eq_true rfl, Nat.le_of_ble_eq_true rfl⟩) hK hst hnw hS hW rfl hl.1 rfl (Nat.le_of_ble_eq_true rfl) dX7_clerks_15 ⟨Nat.zero_le _, Nat.zero_le _⟩) hS (fun r_15 M_13 H locs hq_14 hW hS => ?_)
      obtain ⟨hq_14a, hq_14b⟩ := hq_14
      rw [hq_14b] at hW
      rw [hq_14a]
      rw [xr_in_i v (nI 0) (nI 3) (by decide) (by decide)]
      by_cases h1 : v < nI 0
      · rw [if_pos h1]
        have hres : (-2 : Int32) = xa_clk (nI k) v := by unfold xa_clk; rw [if_neg hni]; exact (if_pos h1).symm
        refine lv_if_ne (tgt := 24) hx hb dX7_clerks_18 (by decide) (fun c_16 => ?_) (fun c_16 => ?_)
        · exact absurd c_16 (by decide)
        · refine lv_bipush (v := (-2)) hx hb dX7_clerks_21 (by decide) ?_
          exact W.iret (v := (-2)) hx hb hr (fun t ht hWm => ⟨⟨(-2), M, rfl, hres, xw_end ht hW⟩, hS.F ht⟩) hS.2.2 dX7_clerks_23
      · rw [if_neg h1]
        by_cases h2 : v ≤ nI 3
        · rw [if_pos h2]
          have hres : nI 1 = xa_clk (nI k) v := by unfold xa_clk; rw [if_neg hni]; exact ((if_neg h1).trans (if_pos h2)).symm
          refine lv_if_ne (tgt := 24) hx hb dX7_clerks_18 (by decide) (fun c_17 => ?_) (fun c_17 => ?_)
          · refine lv_aload_n hx hb dX7_clerks_24 rfl (lv_at hl 0 rfl) ?_
            refine xc_v (xr_V (As := []) (rest := []) (κ := 20) ⟨hx, hb, hml, hown, hts⟩ (c_X7_changes l O M r hτ hF.2.1) (cwV 0 hts gX7_clerks_X7_changes rfl rfl rfl (by decide +kernel) ⟨Nat.le_of_ble_eq_true rfl, Nat.le_of_ble_eq_true rfl⟩) hK hst hnw hS hW hτ (by decide) rfl rfl rfl hl.1 rfl (Nat.le_of_ble_eq_true rfl) dX7_clerks_25 ⟨Nat.zero_le _, Nat.zero_le _⟩) hS (fun M_18 H locs hq_19 hW hS => ?_)
            have hu : ∀ x, x ≠ r → x ≠ r + 3 → M_18 x = M x := hq_19
            refine lv_aload_n hx hb dX7_clerks_28 rfl (lv_at hl 0 rfl) ?_
            refine xg_get (κ := 20) (ci := 7) (C := RX7) (T := TX7) (N := 12) hx hb hts inX7 hown hK hW hτ (by decide) rfl rfl 0 (by decide) (hts (.fieldLink RX7 7 "HalfTicketsModel" "all" "[I") (List.mem_of_getElem? (i := 2) (by decide +kernel))) (fun _ h9 => h9) rfl dX7_clerks_29 ?_
            refine lv_bipush (v := (nI 14)) hx hb dX7_clerks_32 (by decide) ?_
            refine lv_iload_n hx hb dX7_clerks_34 rfl (lv_at hl 1 rfl) ?_
            refine lv_iadd hx hb dX7_clerks_35 ?_
            refine xg_iald (κ := 426) (n := 326) hx hb hK hW (O.n1 hτ) (by decide) rfl (14 + k) (nI_add 14 k) (by omega) (by decide) dX7_clerks_36 ?_
            refine lv_istore_n (lv' := [(3, .int (M_18 (r + 1) (14 + k))), (0, .ref r), (1, .int (nI k)), (2, .int v)]) hx hb dX7_clerks_37 rfl hl (by decide) rfl (fun ls hl => ?_)
            refine lv_aload_n hx hb dX7_clerks_38 rfl (lv_at hl 1 rfl) ?_
            refine xg_get (κ := 20) (ci := 7) (C := RX7) (T := TX7) (N := 12) hx hb hts inX7 hown hK hW hτ (by decide) rfl rfl 0 (by decide) (hts (.fieldLink RX7 7 "HalfTicketsModel" "all" "[I") (List.mem_of_getElem? (i := 2) (by decide +kernel))) (fun _ h9 => h9) rfl dX7_clerks_39 ?_
            refine lv_bipush (v := (nI 14)) hx hb dX7_clerks_42 (by decide) ?_
            refine lv_iload_n hx hb dX7_clerks_44 rfl (lv_at hl 2 rfl) ?_
            refine lv_iadd hx hb dX7_clerks_45 ?_
            refine lv_iload_n hx hb dX7_clerks_46 rfl (lv_at hl 3 rfl) ?_
            refine xg_iast (κ := 426) (n := 326) hx hb hK O hW hS (O.n1 hτ) (by decide) (fun _ => rfl) (fun _ => trivial) (14 + k) (nI_add 14 k) (by omega) (by decide) dX7_clerks_47 (fun H locs hW hS => ?_)
            obtain ⟨M_21, eM_21⟩ : ∃ M9, M9 = xu_p M_18 (r + 1) (14 + k) v := ⟨_, rfl⟩
            rw [← eM_21] at hW
            refine lv_iload_n hx hb dX7_clerks_48 rfl (lv_at hl 0 rfl) ?_
            exact W.iret (v := (M_18 (r + 1) (14 + k))) hx hb hr (fun t ht hWm => ⟨⟨(M_18 (r + 1) (14 + k)), M_21, rfl, (by rw [hu _ (by omega) (by omega), hF.1 _ (by omega), xm_1 (by omega)]; exact hres), xw_end ht hW⟩, hS.F ht⟩) hS.2.2 dX7_clerks_49
          · exact absurd c_17 (by decide)
        · rw [if_neg h2]
          have hres : (-2 : Int32) = xa_clk (nI k) v := by unfold xa_clk; rw [if_neg hni]; exact ((if_neg h1).trans (if_neg h2)).symm
          refine lv_if_ne (tgt := 24) hx hb dX7_clerks_18 (by decide) (fun c_22 => ?_) (fun c_22 => ?_)
          · exact absurd c_22 (by decide)
          · refine lv_bipush (v := (-2)) hx hb dX7_clerks_21 (by decide) ?_
            exact W.iret (v := (-2)) hx hb hr (fun t ht hWm => ⟨⟨(-2), M, rfl, hres, xw_end ht hW⟩, hS.F ht⟩) hS.2.2 dX7_clerks_23
    · exact absurd c_12 (by decide)

set_option maxHeartbeats 4000000 in
set_option maxRecDepth 100000 in
/-- HalfTicketsModel.bring, new -/
theorem cm_bring (l : Launch) {G : va_G} {g : Nat → ClassId} {t0 τ : Nat → Nat} {A : Nat → Prop} (O : xk_O τ A) (M : xm_T) (r : Nat) (hτ : τ r = 20) (hF : xr_F M r) (i : Int32) : Met l yX7_bring wsX7_bring ({ frames := 5, cells := 0, slots := 0, locals := 160 }) (va_Pc [.ref r, .int i] (xS_t G g t0 τ A M)) (va_Qi (fun b M' => b = xa_bri i) (fun M' t => xw_D G g τ M' t.heap) A) 0 0 A := by
  refine Met.ofW (cc := cX7_bring) (maxL := 4) (ret := (some .int)) (by decide) rfl ?_
  intro p e s m args below meth c s₁ B hml hv
  obtain ⟨rfl, hW, hK, hst, hnw⟩ := hv
  have hx := B.exec
  have hb := B.bytes
  have hr := B.returns
  have hts := atoms_spec (ws := wsX7_bring) B.pre
  have hown : s.vm.findClass RX7 = some m.cls := findClass_of_methodNamed B.named
  have hlocks := B.notSynchronized
  have hS : va_S A s.heap s.heap [] := va_S.rf
  have inX7 : ∀ w ∈ u_ws RX7 TX7 12, w ∈ wsX7_bring := by decide +kernel
  have hl := lv_entry ([.ref r, .int i]) (n := 4) (Nat.le_of_ble_eq_true rfl)
  rw [lg_entry_eq]
  generalize (lg_sl ([.ref r, .int i]) ++ List.replicate (4 - (lg_sl ([.ref r, .int i])).length) Slot.unset).toArray = ls at hl ⊢
  have hl : lv_has ls 4 [(0, .ref r), (1, .int i)] := hl
  rcases pk_ix i (n := 6) (by omega) with hlo | hhi | ⟨k, hk, rfl⟩
  · have hres : (-1 : Int32) = xa_bri i := by unfold xa_bri; rw [if_pos (Or.inl hlo)]
    refine lv_iload_n hx hb dX7_bring_0 rfl (lv_at hl 1 rfl) ?_
    refine xc_i (xr_S (As := [.int i]) (rest := []) ⟨hx, hb, hml, hown, hts⟩ (c_X7_isWindow l O M i) (va_cwS 1 hts gX7_bring_X7_isWindow rfl rfl rfl (by decide +kernel) ⟨Nat.le_of_ble_eq_true rfl, Nat.le_of_ble_eq_true rfl⟩) hK hst hnw hS hW rfl hl.1 rfl (Nat.le_of_ble_eq_true rfl) dX7_bring_1 ⟨Nat.zero_le _, Nat.zero_le _⟩) hS (fun r_3 M_1 H locs hq_2 hW hS => ?_)
    obtain ⟨hq_2a, hq_2b⟩ := hq_2
    rw [hq_2b] at hW
    rw [hq_2a]
    rw [xr_w_lo hlo]
    refine lv_if_ne (tgt := 9) hx hb dX7_bring_4 (by decide) (fun c_4 => ?_) (fun c_4 => ?_)
    · exact absurd c_4 (by decide)
    · refine lv_iconst (v := (-1)) hx hb dX7_bring_7 (by decide) ?_
      exact W.iret (v := (-1)) hx hb hr (fun t ht hWm => ⟨⟨(-1), M, rfl, hres, xw_end ht hW⟩, hS.F ht⟩) hS.2.2 dX7_bring_8
  · have hres : (-1 : Int32) = xa_bri i := by unfold xa_bri; rw [if_pos (Or.inr hhi)]
    refine lv_iload_n hx hb dX7_bring_0 rfl (lv_at hl 1 rfl) ?_
    refine xc_i (xr_S (As := [.int i]) (rest := []) ⟨hx, hb, hml, hown, hts⟩ (c_X7_isWindow l O M i) (va_cwS 1 hts gX7_bring_X7_isWindow rfl rfl rfl (by decide +kernel) ⟨Nat.le_of_ble_eq_true rfl, Nat.le_of_ble_eq_true rfl⟩) hK hst hnw hS hW rfl hl.1 rfl (Nat.le_of_ble_eq_true rfl) dX7_bring_1 ⟨Nat.zero_le _, Nat.zero_le _⟩) hS (fun r_7 M_5 H locs hq_6 hW hS => ?_)
    obtain ⟨hq_6a, hq_6b⟩ := hq_6
    rw [hq_6b] at hW
    rw [hq_6a]
    rw [xr_w_hi hhi]
    refine lv_if_ne (tgt := 9) hx hb dX7_bring_4 (by decide) (fun c_8 => ?_) (fun c_8 => ?_)
    · exact absurd c_8 (by decide)
    · refine lv_iconst (v := (-1)) hx hb dX7_bring_7 (by decide) ?_
      exact W.iret (v := (-1)) hx hb hr (fun t ht hWm => ⟨⟨(-1), M, rfl, hres, xw_end ht hW⟩, hS.F ht⟩) hS.2.2 dX7_bring_8
  · have hni : ¬ (nI k < 0 ∨ nI 6 ≤ nI k) := fun q => q.elim (nI_pos (by omega)) (nI_ge hk (by decide))
    refine lv_iload_n hx hb dX7_bring_0 rfl (lv_at hl 1 rfl) ?_
    refine xc_i (xr_S (As := [.int (nI k)]) (rest := []) ⟨hx, hb, hml, hown, hts⟩ (c_X7_isWindow l O M (nI k)) (va_cwS 1 hts gX7_bring_X7_isWindow rfl rfl rfl (by decide +kernel) ⟨Nat.le_of_ble_eq_true rfl, Nat.le_of_ble_eq_true rfl⟩) hK hst hnw hS hW rfl hl.1 rfl (Nat.le_of_ble_eq_true rfl) dX7_bring_1 ⟨Nat.zero_le _, Nat.zero_le _⟩) hS (fun r_11 M_9 H locs hq_10 hW hS => ?_)
    obtain ⟨hq_10a, hq_10b⟩ := hq_10
    rw [hq_10b] at hW
    rw [hq_10a]
    rw [xr_w_k hk]
    refine lv_if_ne (tgt := 9) hx hb dX7_bring_4 (by decide) (fun c_12 => ?_) (fun c_12 => ?_)
    · refine lv_aload_n hx hb dX7_bring_9 rfl (lv_at hl 0 rfl) ?_
      refine xc_v (xr_V (As := []) (rest := []) (κ := 20) ⟨hx, hb, hml, hown, hts⟩ (c_X7_changes l O M r hτ hF.2.1) (cwV 0 hts gX7_bring_X7_changes rfl rfl rfl (by decide +kernel) ⟨Nat.le_of_ble_eq_true rfl, Nat.le_of_ble_eq_true rfl⟩) hK hst hnw hS hW hτ (by decide) rfl rfl rfl hl.1 rfl (Nat.le_of_ble_eq_true rfl) dX7_bring_10 ⟨Nat.zero_le _, Nat.zero_le _⟩) hS (fun M_13 H locs hq_14 hW hS => ?_)
      have hu : ∀ x, x ≠ r → x ≠ r + 3 → M_13 x = M x := hq_14
      refine lv_aload_n hx hb dX7_bring_13 rfl (lv_at hl 0 rfl) ?_
      refine xg_get (κ := 20) (ci := 7) (C := RX7) (T := TX7) (N := 12) hx hb hts inX7 hown hK hW hτ (by decide) rfl rfl 0 (by decide) (hts (.fieldLink RX7 7 "HalfTicketsModel" "all" "[I") (List.mem_of_getElem? (i := 1) (by decide +kernel))) (fun _ h9 => h9) rfl dX7_bring_14 ?_
      refine lv_iconst (v := (nI 1)) hx hb dX7_bring_17 (by decide) ?_
      refine xg_iald (κ := 426) (n := 326) hx hb hK hW (O.n1 hτ) (by decide) rfl 1 rfl (by decide) (by decide) dX7_bring_18 ?_
      refine lv_aload_n hx hb dX7_bring_19 rfl (lv_at hl 0 rfl) ?_
      refine xg_get (κ := 20) (ci := 7) (C := RX7) (T := TX7) (N := 12) hx hb hts inX7 hown hK hW hτ (by decide) rfl rfl 0 (by decide) (hts (.fieldLink RX7 7 "HalfTicketsModel" "all" "[I") (List.mem_of_getElem? (i := 1) (by decide +kernel))) (fun _ h9 => h9) rfl dX7_bring_20 ?_
      refine lv_bipush (v := (nI 20)) hx hb dX7_bring_23 (by decide) ?_
      refine lv_iload_n hx hb dX7_bring_25 rfl (lv_at hl 1 rfl) ?_
      refine lv_iadd hx hb dX7_bring_26 ?_
      refine xg_iald (κ := 426) (n := 326) hx hb hK hW (O.n1 hτ) (by decide) rfl (20 + k) (nI_add 20 k) (by omega) (by decide) dX7_bring_27 ?_
      refine lv_isub hx hb dX7_bring_28 ?_
      have hz : ((M_13 (r + 1) 1) - (M_13 (r + 1) (20 + k))) = nI 0 := by rw [hu _ (by omega) (by omega), hF.1 1 (by decide), hF.1 (20 + k) (by omega), xm_8 (j := 20 + k) (by omega), show xm_al 1 = nI 8 from by decide]; decide
      rw [hz]
      refine lv_istore_n (lv' := [(2, .int (nI 0)), (0, .ref r), (1, .int (nI k))]) hx hb dX7_bring_29 rfl hl (by decide) rfl (fun ls hl => ?_)
      refine lv_iload_n hx hb dX7_bring_30 rfl (lv_at hl 0 rfl) ?_
      refine lv_if_le (tgt := 38) hx hb dX7_bring_31 (by decide) (fun c_16 => ?_) (fun c_16 => ?_)
      · refine lv_iconst (v := (nI 0)) hx hb dX7_bring_38 (by decide) ?_
        refine lv_istore_n (lv' := [(3, .int (nI 0)), (2, .int (nI 0)), (0, .ref r), (1, .int (nI k))]) hx hb dX7_bring_39 rfl hl (by decide) rfl (fun ls hl => ?_)
        refine lv_aload_n hx hb dX7_bring_40 rfl (lv_at hl 2 rfl) ?_
        refine xg_get (κ := 20) (ci := 7) (C := RX7) (T := TX7) (N := 12) hx hb hts inX7 hown hK hW hτ (by decide) rfl rfl 0 (by decide) (hts (.fieldLink RX7 7 "HalfTicketsModel" "all" "[I") (List.mem_of_getElem? (i := 1) (by decide +kernel))) (fun _ h9 => h9) rfl dX7_bring_41 ?_
        refine lv_bipush (v := (nI 20)) hx hb dX7_bring_44 (by decide) ?_
        refine lv_iload_n hx hb dX7_bring_46 rfl (lv_at hl 3 rfl) ?_
        refine lv_iadd hx hb dX7_bring_47 ?_
        refine lv_dup2_11 hx hb dX7_bring_48 rfl rfl ?_
        refine xg_iald (κ := 426) (n := 326) hx hb hK hW (O.n1 hτ) (by decide) rfl (20 + k) (nI_add 20 k) (by omega) (by decide) dX7_bring_49 ?_
        refine lv_iload_n hx hb dX7_bring_50 rfl (lv_at hl 0 rfl) ?_
        refine lv_iadd hx hb dX7_bring_51 ?_
        refine xg_iast (κ := 426) (n := 326) hx hb hK O hW hS (O.n1 hτ) (by decide) (fun _ => rfl) (fun _ => trivial) (20 + k) (nI_add 20 k) (by omega) (by decide) dX7_bring_52 (fun H locs hW hS => ?_)
        obtain ⟨M_17, eM_17⟩ : ∃ M9, M9 = xu_p M_13 (r + 1) (20 + k) ((M_13 (r + 1) (20 + k)) + (nI 0)) := ⟨_, rfl⟩
        rw [← eM_17] at hW
        refine lv_aload_n hx hb dX7_bring_53 rfl (lv_at hl 2 rfl) ?_
        refine xg_get (κ := 20) (ci := 7) (C := RX7) (T := TX7) (N := 12) hx hb hts inX7 hown hK hW hτ (by decide) rfl rfl 0 (by decide) (hts (.fieldLink RX7 7 "HalfTicketsModel" "all" "[I") (List.mem_of_getElem? (i := 1) (by decide +kernel))) (fun _ h9 => h9) rfl dX7_bring_54 ?_
        refine lv_bipush (v := (nI 6)) hx hb dX7_bring_57 (by decide) ?_
        refine lv_dup2_11 hx hb dX7_bring_59 rfl rfl ?_
        refine xg_iald (κ := 426) (n := 326) hx hb hK hW (O.n1 hτ) (by decide) rfl 6 rfl (by decide) (by decide) dX7_bring_60 ?_
        refine lv_iload_n hx hb dX7_bring_61 rfl (lv_at hl 0 rfl) ?_
        refine lv_iadd hx hb dX7_bring_62 ?_
        refine xg_iast (κ := 426) (n := 326) hx hb hK O hW hS (O.n1 hτ) (by decide) (fun _ => rfl) (fun _ => trivial) 6 rfl (by decide) (by decide) dX7_bring_63 (fun H locs hW hS => ?_)
        obtain ⟨M_18, eM_18⟩ : ∃ M9, M9 = xu_p M_17 (r + 1) 6 ((M_17 (r + 1) 6) + (nI 0)) := ⟨_, rfl⟩
        rw [← eM_18] at hW
        refine lv_iload_n hx hb dX7_bring_64 rfl (lv_at hl 0 rfl) ?_
        exact W.iret (v := (nI 0)) hx hb hr (fun t ht hWm => ⟨⟨(nI 0), M_18, rfl, (by unfold xa_bri; rw [if_neg hni]), xw_end ht hW⟩, hS.F ht⟩) hS.2.2 dX7_bring_65
      · exact absurd (by decide) c_16
    · exact absurd c_12 (by decide)

set_option maxHeartbeats 4000000 in
set_option maxRecDepth 100000 in
/-- HalfTicketsModel.leave, new -/
theorem cm_leave (l : Launch) {G : va_G} {g : Nat → ClassId} {t0 τ : Nat → Nat} {A : Nat → Prop} (O : xk_O τ A) (M : xm_T) (r : Nat) (hτ : τ r = 20) (hF : xr_F M r) (i : Int32) : Met l yX7_leave wsX7_leave ({ frames := 5, cells := 0, slots := 0, locals := 160 }) (va_Pc [.ref r, .int i] (xS_t G g t0 τ A M)) (va_Qi (fun b M' => b = -1) (fun M' t => xw_D G g τ M' t.heap) A) 0 0 A := by
  refine Met.ofW (cc := cX7_leave) (maxL := 2) (ret := (some .int)) (by decide) rfl ?_
  intro p e s m args below meth c s₁ B hml hv
  obtain ⟨rfl, hW, hK, hst, hnw⟩ := hv
  have hx := B.exec
  have hb := B.bytes
  have hr := B.returns
  have hts := atoms_spec (ws := wsX7_leave) B.pre
  have hown : s.vm.findClass RX7 = some m.cls := findClass_of_methodNamed B.named
  have hlocks := B.notSynchronized
  have hS : va_S A s.heap s.heap [] := va_S.rf
  have inX7 : ∀ w ∈ u_ws RX7 TX7 12, w ∈ wsX7_leave := by decide +kernel
  have hl := lv_entry ([.ref r, .int i]) (n := 2) (Nat.le_of_ble_eq_true rfl)
  rw [lg_entry_eq]
  generalize (lg_sl ([.ref r, .int i]) ++ List.replicate (2 - (lg_sl ([.ref r, .int i])).length) Slot.unset).toArray = ls at hl ⊢
  have hl : lv_has ls 2 [(0, .ref r), (1, .int i)] := hl
  refine lv_aload_n hx hb dX7_leave_0 rfl (lv_at hl 0 rfl) ?_
  refine lv_iload_n hx hb dX7_leave_1 rfl (lv_at hl 1 rfl) ?_
  refine xc_i (xr_V (As := [.int i]) (rest := []) (κ := 20) ⟨hx, hb, hml, hown, hts⟩ (c_X7_isPerson l O M r hτ (xr_p hF) i) (cwV 1 hts gX7_leave_X7_isPerson rfl rfl rfl (by decide +kernel) ⟨Nat.le_of_ble_eq_true rfl, Nat.le_of_ble_eq_true rfl⟩) hK hst hnw hS hW hτ (by decide) rfl rfl rfl hl.1 rfl (Nat.le_of_ble_eq_true rfl) dX7_leave_2 ⟨Nat.zero_le _, Nat.zero_le _⟩) hS (fun r_3 M_1 H locs hq_2 hW hS => ?_)
  obtain ⟨hq_2a, hq_2b⟩ := hq_2
  rw [hq_2b] at hW
  rw [hq_2a]
  refine lv_if_ne (tgt := 10) hx hb dX7_leave_5 (by decide) (fun c_4 => ?_) (fun c_4 => ?_)
  · exact absurd c_4 (by decide)
  · refine lv_iconst (v := (-1)) hx hb dX7_leave_8 (by decide) ?_
    exact W.iret (v := (-1)) hx hb hr (fun t ht hWm => ⟨⟨(-1), M, rfl, rfl, xw_end ht hW⟩, hS.F ht⟩) hS.2.2 dX7_leave_9

set_option maxHeartbeats 4000000 in
set_option maxRecDepth 100000 in
/-- HalfTicketsModel.person, new -/
theorem cm_person (l : Launch) {G : va_G} {g : Nat → ClassId} {t0 τ : Nat → Nat} {A : Nat → Prop} (O : xk_O τ A) (M : xm_T) (r : Nat) (hτ : τ r = 20) (hF : xr_F M r) (i v : Int32) : Met l yX7_person wsX7_person ({ frames := 5, cells := 0, slots := 0, locals := 160 }) (va_Pc [.ref r, .int i, .int v] (xS_t G g t0 τ A M)) (va_Qi (fun b M' => b = -1) (fun M' t => xw_D G g τ M' t.heap) A) 0 0 A := by
  refine Met.ofW (cc := cX7_person) (maxL := 3) (ret := (some .int)) (by decide) rfl ?_
  intro p e s m args below meth c s₁ B hml hv
  obtain ⟨rfl, hW, hK, hst, hnw⟩ := hv
  have hx := B.exec
  have hb := B.bytes
  have hr := B.returns
  have hts := atoms_spec (ws := wsX7_person) B.pre
  have hown : s.vm.findClass RX7 = some m.cls := findClass_of_methodNamed B.named
  have hlocks := B.notSynchronized
  have hS : va_S A s.heap s.heap [] := va_S.rf
  have hl := lv_entry ([.ref r, .int i, .int v]) (n := 3) (Nat.le_of_ble_eq_true rfl)
  rw [lg_entry_eq]
  generalize (lg_sl ([.ref r, .int i, .int v]) ++ List.replicate (3 - (lg_sl ([.ref r, .int i, .int v])).length) Slot.unset).toArray = ls at hl ⊢
  have hl : lv_has ls 3 [(0, .ref r), (1, .int i), (2, .int v)] := hl
  refine lv_aload_n hx hb dX7_person_0 rfl (lv_at hl 0 rfl) ?_
  refine lv_iload_n hx hb dX7_person_1 rfl (lv_at hl 1 rfl) ?_
  refine xc_i (xr_V (As := [.int i]) (rest := []) (κ := 20) ⟨hx, hb, hml, hown, hts⟩ (c_X7_isPerson l O M r hτ (xr_p hF) i) (cwV 1 hts gX7_person_X7_isPerson rfl rfl rfl (by decide +kernel) ⟨Nat.le_of_ble_eq_true rfl, Nat.le_of_ble_eq_true rfl⟩) hK hst hnw hS hW hτ (by decide) rfl rfl rfl hl.1 rfl (Nat.le_of_ble_eq_true rfl) dX7_person_2 ⟨Nat.zero_le _, Nat.zero_le _⟩) hS (fun r_3 M_1 H locs hq_2 hW hS => ?_)
  obtain ⟨hq_2a, hq_2b⟩ := hq_2
  rw [hq_2b] at hW
  rw [hq_2a]
  refine lv_if_ne (tgt := 10) hx hb dX7_person_5 (by decide) (fun c_4 => ?_) (fun c_4 => ?_)
  · exact absurd c_4 (by decide)
  · refine lv_iconst (v := (-1)) hx hb dX7_person_8 (by decide) ?_
    exact W.iret (v := (-1)) hx hb hr (fun t ht hWm => ⟨⟨(-1), M, rfl, rfl, xw_end ht hW⟩, hS.F ht⟩) hS.2.2 dX7_person_9

set_option maxHeartbeats 4000000 in
set_option maxRecDepth 100000 in
/-- HalfTicketsModel.untilDone, new -/
theorem cm_untilDone (l : Launch) {G : va_G} {g : Nat → ClassId} {t0 τ : Nat → Nat} {A : Nat → Prop} (O : xk_O τ A) (M : xm_T) (r : Nat) (hτ : τ r = 20) (hF : xr_F M r) (i : Int32) : Met l yX7_untilDone wsX7_untilDone ({ frames := 5, cells := 0, slots := 0, locals := 160 }) (va_Pc [.ref r, .int i] (xS_t G g t0 τ A M)) (va_Qi (fun b M' => b = -1) (fun M' t => xw_D G g τ M' t.heap) A) 0 0 A := by
  refine Met.ofW (cc := cX7_untilDone) (maxL := 3) (ret := (some .int)) (by decide) rfl ?_
  intro p e s m args below meth c s₁ B hml hv
  obtain ⟨rfl, hW, hK, hst, hnw⟩ := hv
  have hx := B.exec
  have hb := B.bytes
  have hr := B.returns
  have hts := atoms_spec (ws := wsX7_untilDone) B.pre
  have hown : s.vm.findClass RX7 = some m.cls := findClass_of_methodNamed B.named
  have hlocks := B.notSynchronized
  have hS : va_S A s.heap s.heap [] := va_S.rf
  have hl := lv_entry ([.ref r, .int i]) (n := 3) (Nat.le_of_ble_eq_true rfl)
  rw [lg_entry_eq]
  generalize (lg_sl ([.ref r, .int i]) ++ List.replicate (3 - (lg_sl ([.ref r, .int i])).length) Slot.unset).toArray = ls at hl ⊢
  have hl : lv_has ls 3 [(0, .ref r), (1, .int i)] := hl
  refine lv_aload_n hx hb dX7_untilDone_0 rfl (lv_at hl 0 rfl) ?_
  refine lv_iload_n hx hb dX7_untilDone_1 rfl (lv_at hl 1 rfl) ?_
  refine xc_i (xr_V (As := [.int i]) (rest := []) (κ := 20) ⟨hx, hb, hml, hown, hts⟩ (c_X7_isPerson l O M r hτ (xr_p hF) i) (cwV 1 hts gX7_untilDone_X7_isPerson rfl rfl rfl (by decide +kernel) ⟨Nat.le_of_ble_eq_true rfl, Nat.le_of_ble_eq_true rfl⟩) hK hst hnw hS hW hτ (by decide) rfl rfl rfl hl.1 rfl (Nat.le_of_ble_eq_true rfl) dX7_untilDone_2 ⟨Nat.zero_le _, Nat.zero_le _⟩) hS (fun r_3 M_1 H locs hq_2 hW hS => ?_)
  obtain ⟨hq_2a, hq_2b⟩ := hq_2
  rw [hq_2b] at hW
  rw [hq_2a]
  refine lv_if_ne (tgt := 10) hx hb dX7_untilDone_5 (by decide) (fun c_4 => ?_) (fun c_4 => ?_)
  · exact absurd c_4 (by decide)
  · refine lv_iconst (v := (-1)) hx hb dX7_untilDone_8 (by decide) ?_
    exact W.iret (v := (-1)) hx hb hr (fun t ht hWm => ⟨⟨(-1), M, rfl, rfl, xw_end ht hW⟩, hS.F ht⟩) hS.2.2 dX7_untilDone_9

set_option maxHeartbeats 4000000 in
set_option maxRecDepth 100000 in
/-- HalfTicketsModel.pass, new -/
theorem cm_pass (l : Launch) {G : va_G} {g : Nat → ClassId} {t0 τ : Nat → Nat} {A : Nat → Prop} (O : xk_O τ A) (M : xm_T) (r : Nat) (hτ : τ r = 20) (hF : xr_F M r) (t : Int32) : Met l yX7_pass wsX7_pass ({ frames := 5, cells := 0, slots := 0, locals := 160 }) (va_Pc [.ref r, .int t] (xS_t G g t0 τ A M)) (va_Qi (fun b M' => b = xa_pas t) (fun M' t => xw_D G g τ M' t.heap) A) 0 0 A := by
  refine Met.ofW (cc := cX7_pass) (maxL := 4) (ret := (some .int)) (by decide) rfl ?_
  intro p e s m args below meth c s₁ B hml hv
  obtain ⟨rfl, hW, hK, hst, hnw⟩ := hv
  have hx := B.exec
  have hb := B.bytes
  have hr := B.returns
  have hts := atoms_spec (ws := wsX7_pass) B.pre
  have hown : s.vm.findClass RX7 = some m.cls := findClass_of_methodNamed B.named
  have hlocks := B.notSynchronized
  have hS : va_S A s.heap s.heap [] := va_S.rf
  have inX7 : ∀ w ∈ u_ws RX7 TX7 12, w ∈ wsX7_pass := by decide +kernel
  have hl := lv_entry ([.ref r, .int t]) (n := 4) (Nat.le_of_ble_eq_true rfl)
  rw [lg_entry_eq]
  generalize (lg_sl ([.ref r, .int t]) ++ List.replicate (4 - (lg_sl ([.ref r, .int t])).length) Slot.unset).toArray = ls at hl ⊢
  have hl : lv_has ls 4 [(0, .ref r), (1, .int t)] := hl
  refine lv_iload_n hx hb dX7_pass_0 rfl (lv_at hl 1 rfl) ?_
  refine lv_i2l (v := (t).toInt64) hx hb dX7_pass_1 rfl ?_
  refine lv_lconst (v := 1) hx hb dX7_pass_2 rfl ?_
  refine lv_ldc2 (v := 99) hx hb hown (hts (.constantLong RX7 121 (99)) (List.mem_of_getElem? (i := 1) (by decide +kernel))) dX7_pass_3 ?_
  refine xc_i (xr_S (As := [.long (t).toInt64, .long (1 : Int64), .long (99 : Int64)]) (rest := []) ⟨hx, hb, hml, hown, hts⟩ (c_X7_in l O M (t).toInt64 (1 : Int64) (99 : Int64)) (va_cwS 3 hts gX7_pass_X7_in rfl rfl rfl (by decide +kernel) ⟨Nat.le_of_ble_eq_true rfl, Nat.le_of_ble_eq_true rfl⟩) hK hst hnw hS hW rfl hl.1 rfl (Nat.le_of_ble_eq_true rfl) dX7_pass_6 ⟨Nat.zero_le _, Nat.zero_le _⟩) hS (fun r_3 M_1 H locs hq_2 hW hS => ?_)
  obtain ⟨hq_2a, hq_2b⟩ := hq_2
  rw [hq_2b] at hW
  rw [hq_2a]
  rw [xr_in_i t (nI 1) (nI 99) (by decide) (by decide)]
  by_cases hk1 : t < nI 1
  · rw [if_pos hk1]
    refine lv_if_ne (tgt := 15) hx hb dX7_pass_9 (by decide) (fun c_4 => ?_) (fun c_4 => ?_)
    · exact absurd c_4 (by decide)
    · refine lv_bipush (v := (-2)) hx hb dX7_pass_12 (by decide) ?_
      exact W.iret (v := (-2)) hx hb hr (fun t ht hWm => ⟨⟨(-2), M, rfl, (by unfold xa_pas; rw [if_pos hk1]), xw_end ht hW⟩, hS.F ht⟩) hS.2.2 dX7_pass_14
  · rw [if_neg hk1]
    by_cases hk2 : t ≤ nI 99
    · rw [if_pos hk2]
      refine lv_if_ne (tgt := 15) hx hb dX7_pass_9 (by decide) (fun c_5 => ?_) (fun c_5 => ?_)
      · obtain ⟨k, hk, hkt⟩ := xi_ix2 (xi_1 hk1) hk2 (by decide)
        subst hkt
        refine lv_aload_n hx hb dX7_pass_15 rfl (lv_at hl 0 rfl) ?_
        refine xg_get (κ := 20) (ci := 7) (C := RX7) (T := TX7) (N := 12) hx hb hts inX7 hown hK hW hτ (by decide) rfl rfl 0 (by decide) (hts (.fieldLink RX7 7 "HalfTicketsModel" "all" "[I") (List.mem_of_getElem? (i := 2) (by decide +kernel))) (fun _ h9 => h9) rfl dX7_pass_16 ?_
        refine lv_iconst (v := (nI 3)) hx hb dX7_pass_19 (by decide) ?_
        refine xg_iald (κ := 426) (n := 326) hx hb hK hW (O.n1 hτ) (by decide) rfl 3 rfl (by decide) (by decide) dX7_pass_20 ?_
        refine lv_iload_n hx hb dX7_pass_21 rfl (lv_at hl 1 rfl) ?_
        refine lv_iadd hx hb dX7_pass_22 ?_
        refine lv_sipush (v := (nI 9999)) hx hb dX7_pass_23 (by decide) ?_
        refine lv_icmp_le (tgt := 32) hx hb dX7_pass_26 (by decide) (fun c_6 => ?_) (fun c_6 => ?_)
        · refine lv_aload_n hx hb dX7_pass_32 rfl (lv_at hl 0 rfl) ?_
          refine xc_v (xr_V (As := []) (rest := []) (κ := 20) ⟨hx, hb, hml, hown, hts⟩ (c_X7_changes l O M r hτ hF.2.1) (cwV 0 hts gX7_pass_X7_changes rfl rfl rfl (by decide +kernel) ⟨Nat.le_of_ble_eq_true rfl, Nat.le_of_ble_eq_true rfl⟩) hK hst hnw hS hW hτ (by decide) rfl rfl rfl hl.1 rfl (Nat.le_of_ble_eq_true rfl) dX7_pass_33 ⟨Nat.zero_le _, Nat.zero_le _⟩) hS (fun M_7 H locs hq_8 hW hS => ?_)
          have hu : ∀ x, x ≠ r → x ≠ r + 3 → M_7 x = M x := hq_8
          have hp1 : M_7 (r + 1) 4 = nI 0 := by rw [hu _ (by omega) (by omega)]; exact xr_p hF
          refine lv_aload_n hx hb dX7_pass_36 rfl (lv_at hl 0 rfl) ?_
          refine lv_iconst (v := (nI 2)) hx hb dX7_pass_37 (by decide) ?_
          refine xc_i (xr_V (As := [.int (nI 2)]) (rest := []) (κ := 20) ⟨hx, hb, hml, hown, hts⟩ (c_X7_thatAre l O M_7 r hτ hp1 (nI 2)) (cwV 1 hts gX7_pass_X7_thatAre rfl rfl rfl (by decide +kernel) ⟨Nat.le_of_ble_eq_true rfl, Nat.le_of_ble_eq_true rfl⟩) hK hst hnw hS hW hτ (by decide) rfl rfl rfl hl.1 rfl (Nat.le_of_ble_eq_true rfl) dX7_pass_38 ⟨Nat.zero_le _, Nat.zero_le _⟩) hS (fun r_12 M_10 H locs hq_11 hW hS => ?_)
          obtain ⟨hq_11a, hq_11b⟩ := hq_11
          rw [hq_11b] at hW
          rw [hq_11a]
          refine lv_istore_n (lv' := [(2, .int (nI 0)), (0, .ref r), (1, .int (nI k))]) hx hb dX7_pass_41 rfl hl (by decide) rfl (fun ls hl => ?_)
          refine lv_iconst (v := (nI 0)) hx hb dX7_pass_42 (by decide) ?_
          refine lv_istore_n (lv' := [(3, .int (nI 0)), (2, .int (nI 0)), (0, .ref r), (1, .int (nI k))]) hx hb dX7_pass_43 rfl hl (by decide) rfl (fun ls hl => ?_)
          refine xl_up (σ := xm_T) k (fun kk zz H locs ls => xw_D G g τ zz H ∧ va_S A s.heap H locs ∧ lv_has ls 4 [(3, .int (nI kk)), (2, .int (nI 0)), (0, .ref r), (1, .int (nI k))] ∧ zz (r + 1) 4 = nI 0) (fun z44 H locs ls hI => ?_) (fun k44 z44 H locs ls hk44 hI ih44 => ?_) (k0 := 0) (z0 := M_7) (Nat.zero_le _) ⟨hW, hS, lv_sub hl [0, 1, 2, 3] rfl, hp1⟩
          · obtain ⟨hW, hS, hl, hE44⟩ := hI
            refine lv_iload_n hx hb dX7_pass_44 rfl (lv_at hl 0 rfl) ?_
            refine lv_iload_n hx hb dX7_pass_45 rfl (lv_at hl 3 rfl) ?_
            refine lv_icmp_ge (tgt := 59) hx hb dX7_pass_46 (by decide) (fun c_13 => ?_) (fun c_13 => ?_)
            · refine lv_aload_n hx hb dX7_pass_59 rfl (lv_at hl 2 rfl) ?_
              refine lv_iconst (v := (nI 2)) hx hb dX7_pass_60 (by decide) ?_
              refine xc_i (xr_V (As := [.int (nI 2)]) (rest := []) (κ := 20) ⟨hx, hb, hml, hown, hts⟩ (c_X7_thatAre l O z44 r hτ hE44 (nI 2)) (cwV 1 hts gX7_pass_X7_thatAre rfl rfl rfl (by decide +kernel) ⟨Nat.le_of_ble_eq_true rfl, Nat.le_of_ble_eq_true rfl⟩) hK hst hnw hS hW hτ (by decide) rfl rfl rfl hl.1 rfl (Nat.le_of_ble_eq_true rfl) dX7_pass_61 ⟨Nat.zero_le _, Nat.zero_le _⟩) hS (fun r_16 M_14 H locs hq_15 hW hS => ?_)
              obtain ⟨hq_15a, hq_15b⟩ := hq_15
              rw [hq_15b] at hW
              rw [hq_15a]
              refine lv_iload_n hx hb dX7_pass_64 rfl (lv_at hl 1 rfl) ?_
              refine lv_isub hx hb dX7_pass_65 ?_
              exact W.iret (v := ((nI 0) - (nI 0))) hx hb hr (fun t ht hWm => ⟨⟨((nI 0) - (nI 0)), z44, rfl, (by unfold xa_pas; rw [if_neg hk1, if_pos hk2]; rfl), xw_end ht hW⟩, hS.F ht⟩) hS.2.2 dX7_pass_66
            · exact absurd (nI_le (Nat.le_refl _) (by omega)) c_13
          · obtain ⟨hW, hS, hl, hE44⟩ := hI
            refine lv_iload_n hx hb dX7_pass_44 rfl (lv_at hl 0 rfl) ?_
            refine lv_iload_n hx hb dX7_pass_45 rfl (lv_at hl 3 rfl) ?_
            refine lv_icmp_ge (tgt := 59) hx hb dX7_pass_46 (by decide) (fun c_17 => ?_) (fun c_17 => ?_)
            · exact absurd c_17 (nI_ge hk44 (by omega))
            · refine lv_aload_n hx hb dX7_pass_49 rfl (lv_at hl 2 rfl) ?_
              refine xc_v (xr_V (As := []) (rest := []) (κ := 20) ⟨hx, hb, hml, hown, hts⟩ (c_X7_ticks l O z44 r hτ hE44) (cwV 0 hts gX7_pass_X7_ticks rfl rfl rfl (by decide +kernel) ⟨Nat.le_of_ble_eq_true rfl, Nat.le_of_ble_eq_true rfl⟩) hK hst hnw hS hW hτ (by decide) rfl rfl rfl hl.1 rfl (Nat.le_of_ble_eq_true rfl) dX7_pass_50 ⟨Nat.zero_le _, Nat.zero_le _⟩) hS (fun M_18 H locs hq_19 hW hS => ?_)
              have hq_t := hq_19
              refine lv_iinc (v := (nI (k44 + 1))) (lv' := [(3, .int (nI (k44 + 1))), (2, .int (nI 0)), (0, .ref r), (1, .int (nI k))]) hx hb dX7_pass_53 hl (k := 0) rfl ((nI_1 k44)) (by decide) rfl (fun ls hl => ?_)
              refine lv_goto (tgt := 44) hx hb dX7_pass_56 (by decide) ?_
              exact ih44 M_18 _ _ _ ⟨hW, hS, lv_sub hl [0, 1, 2, 3] rfl, ((hq_t.1 4 (by decide)).trans hE44)⟩
        · exact absurd (by rw [hF.1 3 (by decide), show xm_al 3 = nI 0 from by decide, nI_add]; exact nI_le (by omega) (by decide)) c_6
      · exact absurd c_5 (by decide)
    · rw [if_neg hk2]
      refine lv_if_ne (tgt := 15) hx hb dX7_pass_9 (by decide) (fun c_21 => ?_) (fun c_21 => ?_)
      · exact absurd c_21 (by decide)
      · refine lv_bipush (v := (-2)) hx hb dX7_pass_12 (by decide) ?_
        exact W.iret (v := (-2)) hx hb hr (fun t ht hWm => ⟨⟨(-2), M, rfl, (by unfold xa_pas; rw [if_neg hk1, if_neg hk2]), xw_end ht hW⟩, hS.F ht⟩) hS.2.2 dX7_pass_14

set_option maxHeartbeats 4000000 in
set_option maxRecDepth 100000 in
/-- HalfTicketsModel.windowOf, new -/
theorem cm_windowOf (l : Launch) {G : va_G} {g : Nat → ClassId} {t0 τ : Nat → Nat} {A : Nat → Prop} (O : xk_O τ A) (M : xm_T) (r : Nat) (hτ : τ r = 20) (hF : xr_F M r) (i v : Int32) : Met l yX7_windowOf wsX7_windowOf ({ frames := 5, cells := 0, slots := 0, locals := 160 }) (va_Pc [.ref r, .int i, .int v] (xS_t G g t0 τ A M)) (va_Qi (fun b M' => b = xa_wof i v) (fun M' t => xw_D G g τ M' t.heap) A) 0 0 A := by
  refine Met.ofW (cc := cX7_windowOf) (maxL := 3) (ret := (some .int)) (by decide) rfl ?_
  intro p e s m args below meth c s₁ B hml hv
  obtain ⟨rfl, hW, hK, hst, hnw⟩ := hv
  have hx := B.exec
  have hb := B.bytes
  have hr := B.returns
  have hts := atoms_spec (ws := wsX7_windowOf) B.pre
  have hown : s.vm.findClass RX7 = some m.cls := findClass_of_methodNamed B.named
  have hlocks := B.notSynchronized
  have hS : va_S A s.heap s.heap [] := va_S.rf
  have inX7 : ∀ w ∈ u_ws RX7 TX7 12, w ∈ wsX7_windowOf := by decide +kernel
  have hl := lv_entry ([.ref r, .int i, .int v]) (n := 3) (Nat.le_of_ble_eq_true rfl)
  rw [lg_entry_eq]
  generalize (lg_sl ([.ref r, .int i, .int v]) ++ List.replicate (3 - (lg_sl ([.ref r, .int i, .int v])).length) Slot.unset).toArray = ls at hl ⊢
  have hl : lv_has ls 3 [(0, .ref r), (1, .int i), (2, .int v)] := hl
  rcases pk_ix i (n := 6) (by omega) with hlo | hhi | ⟨k, hk, rfl⟩
  · have hres : (-1 : Int32) = xa_wof i v := by unfold xa_wof; rw [if_pos (Or.inl hlo)]
    refine lv_iload_n hx hb dX7_windowOf_0 rfl (lv_at hl 1 rfl) ?_
    refine xc_i (xr_S (As := [.int i]) (rest := []) ⟨hx, hb, hml, hown, hts⟩ (c_X7_isWindow l O M i) (va_cwS 1 hts gX7_windowOf_X7_isWindow rfl rfl rfl (by decide +kernel) ⟨Nat.le_of_ble_eq_true rfl, Nat.le_of_ble_eq_true rfl⟩) hK hst hnw hS hW rfl hl.1 rfl (Nat.le_of_ble_eq_true rfl) dX7_windowOf_1 ⟨Nat.zero_le _, Nat.zero_le _⟩) hS (fun r_3 M_1 H locs hq_2 hW hS => ?_)
    obtain ⟨hq_2a, hq_2b⟩ := hq_2
    rw [hq_2b] at hW
    rw [hq_2a]
    rw [xr_w_lo hlo]
    refine lv_if_ne (tgt := 9) hx hb dX7_windowOf_4 (by decide) (fun c_4 => ?_) (fun c_4 => ?_)
    · exact absurd c_4 (by decide)
    · refine lv_iconst (v := (-1)) hx hb dX7_windowOf_7 (by decide) ?_
      exact W.iret (v := (-1)) hx hb hr (fun t ht hWm => ⟨⟨(-1), M, rfl, hres, xw_end ht hW⟩, hS.F ht⟩) hS.2.2 dX7_windowOf_8
  · have hres : (-1 : Int32) = xa_wof i v := by unfold xa_wof; rw [if_pos (Or.inr hhi)]
    refine lv_iload_n hx hb dX7_windowOf_0 rfl (lv_at hl 1 rfl) ?_
    refine xc_i (xr_S (As := [.int i]) (rest := []) ⟨hx, hb, hml, hown, hts⟩ (c_X7_isWindow l O M i) (va_cwS 1 hts gX7_windowOf_X7_isWindow rfl rfl rfl (by decide +kernel) ⟨Nat.le_of_ble_eq_true rfl, Nat.le_of_ble_eq_true rfl⟩) hK hst hnw hS hW rfl hl.1 rfl (Nat.le_of_ble_eq_true rfl) dX7_windowOf_1 ⟨Nat.zero_le _, Nat.zero_le _⟩) hS (fun r_7 M_5 H locs hq_6 hW hS => ?_)
    obtain ⟨hq_6a, hq_6b⟩ := hq_6
    rw [hq_6b] at hW
    rw [hq_6a]
    rw [xr_w_hi hhi]
    refine lv_if_ne (tgt := 9) hx hb dX7_windowOf_4 (by decide) (fun c_8 => ?_) (fun c_8 => ?_)
    · exact absurd c_8 (by decide)
    · refine lv_iconst (v := (-1)) hx hb dX7_windowOf_7 (by decide) ?_
      exact W.iret (v := (-1)) hx hb hr (fun t ht hWm => ⟨⟨(-1), M, rfl, hres, xw_end ht hW⟩, hS.F ht⟩) hS.2.2 dX7_windowOf_8
  · have hni : ¬ (nI k < 0 ∨ nI 6 ≤ nI k) := fun q => q.elim (nI_pos (by omega)) (nI_ge hk (by decide))
    refine lv_iload_n hx hb dX7_windowOf_0 rfl (lv_at hl 1 rfl) ?_
    refine xc_i (xr_S (As := [.int (nI k)]) (rest := []) ⟨hx, hb, hml, hown, hts⟩ (c_X7_isWindow l O M (nI k)) (va_cwS 1 hts gX7_windowOf_X7_isWindow rfl rfl rfl (by decide +kernel) ⟨Nat.le_of_ble_eq_true rfl, Nat.le_of_ble_eq_true rfl⟩) hK hst hnw hS hW rfl hl.1 rfl (Nat.le_of_ble_eq_true rfl) dX7_windowOf_1 ⟨Nat.zero_le _, Nat.zero_le _⟩) hS (fun r_11 M_9 H locs hq_10 hW hS => ?_)
    obtain ⟨hq_10a, hq_10b⟩ := hq_10
    rw [hq_10b] at hW
    rw [hq_10a]
    rw [xr_w_k hk]
    refine lv_if_ne (tgt := 9) hx hb dX7_windowOf_4 (by decide) (fun c_12 => ?_) (fun c_12 => ?_)
    · rcases pk_ix v (n := 7) (by omega) with vlo | vhi | ⟨j, hj, rfl⟩
      · refine lv_iload_n hx hb dX7_windowOf_9 rfl (lv_at hl 2 rfl) ?_
        refine lv_tableOut (tgt := 93) hx hb dX7_windowOf_10 (xi_tlo vlo rfl) (by decide) ?_
        refine lv_bipush (v := (-2)) hx hb dX7_windowOf_93 (by decide) ?_
        exact W.iret (v := (-2)) hx hb hr (fun t ht hWm => ⟨⟨(-2), M, rfl, (by unfold xa_wof; rw [if_neg hni, if_pos vlo]), xw_end ht hW⟩, hS.F ht⟩) hS.2.2 dX7_windowOf_95
      · refine lv_iload_n hx hb dX7_windowOf_9 rfl (lv_at hl 2 rfl) ?_
        refine lv_tableOut (tgt := 93) hx hb dX7_windowOf_10 (xi_thi vhi (by decide) rfl) (by decide) ?_
        refine lv_bipush (v := (-2)) hx hb dX7_windowOf_93 (by decide) ?_
        exact W.iret (v := (-2)) hx hb hr (fun t ht hWm => ⟨⟨(-2), M, rfl, (by unfold xa_wof; rw [if_neg hni, if_neg (xi_hi vhi (by decide)), if_neg (fun z => absurd (Int32.le_trans vhi z) (by decide))]), xw_end ht hW⟩, hS.F ht⟩) hS.2.2 dX7_windowOf_95
      · rcases (show j = 0 ∨ j = 1 ∨ j = 2 ∨ j = 3 ∨ j = 4 ∨ j = 5 ∨ j = 6 by omega) with rfl | rfl | rfl | rfl | rfl | rfl | rfl
        · refine lv_iload_n hx hb dX7_windowOf_9 rfl (lv_at hl 2 rfl) ?_
          refine lv_tableIn (off := 42) (tgt := 52) hx hb dX7_windowOf_10 (by decide) (by decide) (by decide) (by decide) ?_
          refine lv_aload_n hx hb dX7_windowOf_52 rfl (lv_at hl 0 rfl) ?_
          refine xg_get (κ := 20) (ci := 7) (C := RX7) (T := TX7) (N := 12) hx hb hts inX7 hown hK hW hτ (by decide) rfl rfl 0 (by decide) (hts (.fieldLink RX7 7 "HalfTicketsModel" "all" "[I") (List.mem_of_getElem? (i := 1) (by decide +kernel))) (fun _ h9 => h9) rfl dX7_windowOf_53 ?_
          refine lv_bipush (v := (nI 8)) hx hb dX7_windowOf_56 (by decide) ?_
          refine lv_bipush (v := (nI 6)) hx hb dX7_windowOf_58 (by decide) ?_
          refine lv_iload_n hx hb dX7_windowOf_60 rfl (lv_at hl 2 rfl) ?_
          refine lv_imul hx hb dX7_windowOf_61 ?_
          refine lv_iadd hx hb dX7_windowOf_62 ?_
          refine lv_iload_n hx hb dX7_windowOf_63 rfl (lv_at hl 1 rfl) ?_
          refine lv_iadd hx hb dX7_windowOf_64 ?_
          refine xg_iald (κ := 426) (n := 326) hx hb hK hW (O.n1 hτ) (by decide) rfl (8 + k) (show nI 8 + nI 6 * nI 0 + nI k = nI (8 + k) by rw [pk_mul, nI_add, nI_add]) (by omega) (by decide) dX7_windowOf_65 ?_
          exact W.iret (v := (M (r + 1) (8 + k))) hx hb hr (fun t ht hWm => ⟨⟨(M (r + 1) (8 + k)), M, rfl, (by rw [hF.1 _ (by omega), xm_1 (by omega)]; unfold xa_wof; rw [if_neg hni, if_neg (by decide), if_pos (by decide)]; rfl), xw_end ht hW⟩, hS.F ht⟩) hS.2.2 dX7_windowOf_66
        · refine lv_iload_n hx hb dX7_windowOf_9 rfl (lv_at hl 2 rfl) ?_
          refine lv_tableIn (off := 42) (tgt := 52) hx hb dX7_windowOf_10 (by decide) (by decide) (by decide) (by decide) ?_
          refine lv_aload_n hx hb dX7_windowOf_52 rfl (lv_at hl 0 rfl) ?_
          refine xg_get (κ := 20) (ci := 7) (C := RX7) (T := TX7) (N := 12) hx hb hts inX7 hown hK hW hτ (by decide) rfl rfl 0 (by decide) (hts (.fieldLink RX7 7 "HalfTicketsModel" "all" "[I") (List.mem_of_getElem? (i := 1) (by decide +kernel))) (fun _ h9 => h9) rfl dX7_windowOf_53 ?_
          refine lv_bipush (v := (nI 8)) hx hb dX7_windowOf_56 (by decide) ?_
          refine lv_bipush (v := (nI 6)) hx hb dX7_windowOf_58 (by decide) ?_
          refine lv_iload_n hx hb dX7_windowOf_60 rfl (lv_at hl 2 rfl) ?_
          refine lv_imul hx hb dX7_windowOf_61 ?_
          refine lv_iadd hx hb dX7_windowOf_62 ?_
          refine lv_iload_n hx hb dX7_windowOf_63 rfl (lv_at hl 1 rfl) ?_
          refine lv_iadd hx hb dX7_windowOf_64 ?_
          refine xg_iald (κ := 426) (n := 326) hx hb hK hW (O.n1 hτ) (by decide) rfl (14 + k) (show nI 8 + nI 6 * nI 1 + nI k = nI (14 + k) by rw [pk_mul, nI_add, nI_add]) (by omega) (by decide) dX7_windowOf_65 ?_
          exact W.iret (v := (M (r + 1) (14 + k))) hx hb hr (fun t ht hWm => ⟨⟨(M (r + 1) (14 + k)), M, rfl, (by rw [hF.1 _ (by omega), xm_1 (by omega)]; unfold xa_wof; rw [if_neg hni, if_neg (by decide), if_pos (by decide)]; rfl), xw_end ht hW⟩, hS.F ht⟩) hS.2.2 dX7_windowOf_66
        · refine lv_iload_n hx hb dX7_windowOf_9 rfl (lv_at hl 2 rfl) ?_
          refine lv_tableIn (off := 42) (tgt := 52) hx hb dX7_windowOf_10 (by decide) (by decide) (by decide) (by decide) ?_
          refine lv_aload_n hx hb dX7_windowOf_52 rfl (lv_at hl 0 rfl) ?_
          refine xg_get (κ := 20) (ci := 7) (C := RX7) (T := TX7) (N := 12) hx hb hts inX7 hown hK hW hτ (by decide) rfl rfl 0 (by decide) (hts (.fieldLink RX7 7 "HalfTicketsModel" "all" "[I") (List.mem_of_getElem? (i := 1) (by decide +kernel))) (fun _ h9 => h9) rfl dX7_windowOf_53 ?_
          refine lv_bipush (v := (nI 8)) hx hb dX7_windowOf_56 (by decide) ?_
          refine lv_bipush (v := (nI 6)) hx hb dX7_windowOf_58 (by decide) ?_
          refine lv_iload_n hx hb dX7_windowOf_60 rfl (lv_at hl 2 rfl) ?_
          refine lv_imul hx hb dX7_windowOf_61 ?_
          refine lv_iadd hx hb dX7_windowOf_62 ?_
          refine lv_iload_n hx hb dX7_windowOf_63 rfl (lv_at hl 1 rfl) ?_
          refine lv_iadd hx hb dX7_windowOf_64 ?_
          refine xg_iald (κ := 426) (n := 326) hx hb hK hW (O.n1 hτ) (by decide) rfl (20 + k) (show nI 8 + nI 6 * nI 2 + nI k = nI (20 + k) by rw [pk_mul, nI_add, nI_add]) (by omega) (by decide) dX7_windowOf_65 ?_
          exact W.iret (v := (M (r + 1) (20 + k))) hx hb hr (fun t ht hWm => ⟨⟨(M (r + 1) (20 + k)), M, rfl, (by rw [hF.1 _ (by omega), xm_8 (by omega)]; unfold xa_wof; rw [if_neg hni, if_neg (by decide), if_pos (by decide)]; rfl), xw_end ht hW⟩, hS.F ht⟩) hS.2.2 dX7_windowOf_66
        · refine lv_iload_n hx hb dX7_windowOf_9 rfl (lv_at hl 2 rfl) ?_
          refine lv_tableIn (off := 57) (tgt := 67) hx hb dX7_windowOf_10 (by decide) (by decide) (by decide) (by decide) ?_
          refine lv_aload_n hx hb dX7_windowOf_67 rfl (lv_at hl 0 rfl) ?_
          refine lv_iload_n hx hb dX7_windowOf_68 rfl (lv_at hl 2 rfl) ?_
          refine lv_iconst (v := (nI 3)) hx hb dX7_windowOf_69 (by decide) ?_
          refine lv_isub hx hb dX7_windowOf_70 ?_
          refine lv_iload_n hx hb dX7_windowOf_71 rfl (lv_at hl 1 rfl) ?_
          refine xc_i (xr_V (As := [.int ((nI 3) - (nI 3)), .int (nI k)]) (rest := []) (κ := 20) ⟨hx, hb, hml, hown, hts⟩ (c_X7_manyAt l O M r hτ (xr_p hF) ((nI 3) - (nI 3)) (nI k)) (cwV 2 hts gX7_windowOf_X7_manyAt rfl rfl rfl (by decide +kernel) ⟨Nat.le_of_ble_eq_true rfl, Nat.le_of_ble_eq_true rfl⟩) hK hst hnw hS hW hτ (by decide) rfl rfl rfl hl.1 rfl (Nat.le_of_ble_eq_true rfl) dX7_windowOf_72 ⟨Nat.zero_le _, Nat.zero_le _⟩) hS (fun r_15 M_13 H locs hq_14 hW hS => ?_)
          obtain ⟨hq_14a, hq_14b⟩ := hq_14
          rw [hq_14b] at hW
          rw [hq_14a]
          exact W.iret (v := (nI 0)) hx hb hr (fun t ht hWm => ⟨⟨(nI 0), M, rfl, (by unfold xa_wof; rw [if_neg hni, if_neg (by decide), if_pos (by decide)]; rfl), xw_end ht hW⟩, hS.F ht⟩) hS.2.2 dX7_windowOf_75
        · refine lv_iload_n hx hb dX7_windowOf_9 rfl (lv_at hl 2 rfl) ?_
          refine lv_tableIn (off := 57) (tgt := 67) hx hb dX7_windowOf_10 (by decide) (by decide) (by decide) (by decide) ?_
          refine lv_aload_n hx hb dX7_windowOf_67 rfl (lv_at hl 0 rfl) ?_
          refine lv_iload_n hx hb dX7_windowOf_68 rfl (lv_at hl 2 rfl) ?_
          refine lv_iconst (v := (nI 3)) hx hb dX7_windowOf_69 (by decide) ?_
          refine lv_isub hx hb dX7_windowOf_70 ?_
          refine lv_iload_n hx hb dX7_windowOf_71 rfl (lv_at hl 1 rfl) ?_
          refine xc_i (xr_V (As := [.int ((nI 4) - (nI 3)), .int (nI k)]) (rest := []) (κ := 20) ⟨hx, hb, hml, hown, hts⟩ (c_X7_manyAt l O M r hτ (xr_p hF) ((nI 4) - (nI 3)) (nI k)) (cwV 2 hts gX7_windowOf_X7_manyAt rfl rfl rfl (by decide +kernel) ⟨Nat.le_of_ble_eq_true rfl, Nat.le_of_ble_eq_true rfl⟩) hK hst hnw hS hW hτ (by decide) rfl rfl rfl hl.1 rfl (Nat.le_of_ble_eq_true rfl) dX7_windowOf_72 ⟨Nat.zero_le _, Nat.zero_le _⟩) hS (fun r_18 M_16 H locs hq_17 hW hS => ?_)
          obtain ⟨hq_17a, hq_17b⟩ := hq_17
          rw [hq_17b] at hW
          rw [hq_17a]
          exact W.iret (v := (nI 0)) hx hb hr (fun t ht hWm => ⟨⟨(nI 0), M, rfl, (by unfold xa_wof; rw [if_neg hni, if_neg (by decide), if_pos (by decide)]; rfl), xw_end ht hW⟩, hS.F ht⟩) hS.2.2 dX7_windowOf_75
        · refine lv_iload_n hx hb dX7_windowOf_9 rfl (lv_at hl 2 rfl) ?_
          refine lv_tableIn (off := 66) (tgt := 76) hx hb dX7_windowOf_10 (by decide) (by decide) (by decide) (by decide) ?_
          refine lv_aload_n hx hb dX7_windowOf_76 rfl (lv_at hl 0 rfl) ?_
          refine xg_get (κ := 20) (ci := 7) (C := RX7) (T := TX7) (N := 12) hx hb hts inX7 hown hK hW hτ (by decide) rfl rfl 0 (by decide) (hts (.fieldLink RX7 7 "HalfTicketsModel" "all" "[I") (List.mem_of_getElem? (i := 1) (by decide +kernel))) (fun _ h9 => h9) rfl dX7_windowOf_77 ?_
          refine lv_bipush (v := (nI 26)) hx hb dX7_windowOf_80 (by decide) ?_
          refine lv_bipush (v := (nI 6)) hx hb dX7_windowOf_82 (by decide) ?_
          refine lv_iload_n hx hb dX7_windowOf_84 rfl (lv_at hl 2 rfl) ?_
          refine lv_iconst (v := (nI 5)) hx hb dX7_windowOf_85 (by decide) ?_
          refine lv_isub hx hb dX7_windowOf_86 ?_
          refine lv_imul hx hb dX7_windowOf_87 ?_
          refine lv_iadd hx hb dX7_windowOf_88 ?_
          refine lv_iload_n hx hb dX7_windowOf_89 rfl (lv_at hl 1 rfl) ?_
          refine lv_iadd hx hb dX7_windowOf_90 ?_
          refine xg_iald (κ := 426) (n := 326) hx hb hK hW (O.n1 hτ) (by decide) rfl (26 + k) (show nI 26 + nI 6 * (nI 5 - nI 5) + nI k = nI (26 + k) by rw [pk_sub (by decide), pk_mul, nI_add, nI_add]) (by omega) (by decide) dX7_windowOf_91 ?_
          exact W.iret (v := (M (r + 1) (26 + k))) hx hb hr (fun t ht hWm => ⟨⟨(M (r + 1) (26 + k)), M, rfl, (by rw [hF.1 _ (by omega), xm_0 (by omega)]; unfold xa_wof; rw [if_neg hni, if_neg (by decide), if_pos (by decide)]; rfl), xw_end ht hW⟩, hS.F ht⟩) hS.2.2 dX7_windowOf_92
        · refine lv_iload_n hx hb dX7_windowOf_9 rfl (lv_at hl 2 rfl) ?_
          refine lv_tableIn (off := 66) (tgt := 76) hx hb dX7_windowOf_10 (by decide) (by decide) (by decide) (by decide) ?_
          refine lv_aload_n hx hb dX7_windowOf_76 rfl (lv_at hl 0 rfl) ?_
          refine xg_get (κ := 20) (ci := 7) (C := RX7) (T := TX7) (N := 12) hx hb hts inX7 hown hK hW hτ (by decide) rfl rfl 0 (by decide) (hts (.fieldLink RX7 7 "HalfTicketsModel" "all" "[I") (List.mem_of_getElem? (i := 1) (by decide +kernel))) (fun _ h9 => h9) rfl dX7_windowOf_77 ?_
          refine lv_bipush (v := (nI 26)) hx hb dX7_windowOf_80 (by decide) ?_
          refine lv_bipush (v := (nI 6)) hx hb dX7_windowOf_82 (by decide) ?_
          refine lv_iload_n hx hb dX7_windowOf_84 rfl (lv_at hl 2 rfl) ?_
          refine lv_iconst (v := (nI 5)) hx hb dX7_windowOf_85 (by decide) ?_
          refine lv_isub hx hb dX7_windowOf_86 ?_
          refine lv_imul hx hb dX7_windowOf_87 ?_
          refine lv_iadd hx hb dX7_windowOf_88 ?_
          refine lv_iload_n hx hb dX7_windowOf_89 rfl (lv_at hl 1 rfl) ?_
          refine lv_iadd hx hb dX7_windowOf_90 ?_
          refine xg_iald (κ := 426) (n := 326) hx hb hK hW (O.n1 hτ) (by decide) rfl (32 + k) (show nI 26 + nI 6 * (nI 6 - nI 5) + nI k = nI (32 + k) by rw [pk_sub (by decide), pk_mul, nI_add, nI_add]) (by omega) (by decide) dX7_windowOf_91 ?_
          exact W.iret (v := (M (r + 1) (32 + k))) hx hb hr (fun t ht hWm => ⟨⟨(M (r + 1) (32 + k)), M, rfl, (by rw [hF.1 _ (by omega), xm_0 (by omega)]; unfold xa_wof; rw [if_neg hni, if_neg (by decide), if_pos (by decide)]; rfl), xw_end ht hW⟩, hS.F ht⟩) hS.2.2 dX7_windowOf_92
    · exact absurd c_12 (by decide)

theorem xi_tlo2 {x : Int32} {lo hi : Int} (h : x < 0) (h0 : 0 ≤ lo) : x.toInt < lo ∨ hi < x.toInt := Or.inl (by
  have h2 := Int32.lt_iff_toInt_lt.mp h
  have h3 : (0 : Int32).toInt = 0 := rfl
  omega)

set_option maxHeartbeats 4000000 in
set_option maxRecDepth 100000 in
/-- HalfTicketsModel.count, new -/
theorem cm_count (l : Launch) {G : va_G} {g : Nat → ClassId} {t0 τ : Nat → Nat} {A : Nat → Prop} (O : xk_O τ A) (M : xm_T) (r : Nat) (hτ : τ r = 20) (hF : xr_F M r) (v : Int32) : Met l yX7_count wsX7_count ({ frames := 5, cells := 0, slots := 0, locals := 160 }) (va_Pc [.ref r, .int v] (xS_t G g t0 τ A M)) (va_Qi (fun b M' => b = xa_cnt v) (fun M' t => xw_D G g τ M' t.heap) A) 0 0 A := by
  refine Met.ofW (cc := cX7_count) (maxL := 2) (ret := (some .int)) (by decide) rfl ?_
  intro p e s m args below meth c s₁ B hml hv
  obtain ⟨rfl, hW, hK, hst, hnw⟩ := hv
  have hx := B.exec
  have hb := B.bytes
  have hr := B.returns
  have hts := atoms_spec (ws := wsX7_count) B.pre
  have hown : s.vm.findClass RX7 = some m.cls := findClass_of_methodNamed B.named
  have hlocks := B.notSynchronized
  have hS : va_S A s.heap s.heap [] := va_S.rf
  have inX7 : ∀ w ∈ u_ws RX7 TX7 12, w ∈ wsX7_count := by decide +kernel
  have hl := lv_entry ([.ref r, .int v]) (n := 2) (Nat.le_of_ble_eq_true rfl)
  rw [lg_entry_eq]
  generalize (lg_sl ([.ref r, .int v]) ++ List.replicate (2 - (lg_sl ([.ref r, .int v])).length) Slot.unset).toArray = ls at hl ⊢
  have hl : lv_has ls 2 [(0, .ref r), (1, .int v)] := hl
  rcases pk_ix v (n := 17) (by omega) with hlo | hhi | ⟨k, hk, rfl⟩
  · have hin : xr_in v.toInt64 0 4 = nI 0 := by rw [xr_in_i v (nI 0) (nI 4) (by decide) (by decide)]; exact if_pos hlo
    refine lv_iload_n hx hb dX7_count_0 rfl (lv_at hl 1 rfl) ?_
    refine lv_tableOut (tgt := 120) hx hb dX7_count_1 (xi_tlo2 hlo (by decide)) (by decide) ?_
    refine lv_iload_n hx hb dX7_count_120 rfl (lv_at hl 1 rfl) ?_
    refine lv_i2l (v := (v).toInt64) hx hb dX7_count_121 rfl ?_
    refine lv_lconst (v := 0) hx hb dX7_count_122 rfl ?_
    refine lv_ldc2 (v := 4) hx hb hown (hts (.constantLong RX7 138 (4)) (List.mem_of_getElem? (i := 4) (by decide +kernel))) dX7_count_123 ?_
    refine xc_i (xr_S (As := [.long (v).toInt64, .long (0 : Int64), .long (4 : Int64)]) (rest := []) ⟨hx, hb, hml, hown, hts⟩ (c_X7_in l O M (v).toInt64 (0 : Int64) (4 : Int64)) (va_cwS 3 hts gX7_count_X7_in rfl rfl rfl (by decide +kernel) ⟨Nat.le_of_ble_eq_true rfl, Nat.le_of_ble_eq_true rfl⟩) hK hst hnw hS hW rfl hl.1 rfl (Nat.le_of_ble_eq_true rfl) dX7_count_126 ⟨Nat.zero_le _, Nat.zero_le _⟩) hS (fun r_3 M_1 H locs hq_2 hW hS => ?_)
    obtain ⟨hq_2a, hq_2b⟩ := hq_2
    rw [hq_2b] at hW
    rw [hq_2a]
    rw [hin]
    refine lv_if_eq (tgt := 141) hx hb dX7_count_129 (by decide) (fun c_4 => ?_) (fun c_4 => ?_)
    · refine lv_bipush (v := (-2)) hx hb dX7_count_141 (by decide) ?_
      exact W.iret (v := (-2)) hx hb hr (fun t ht hWm => ⟨⟨(-2), M, rfl, (by unfold xa_cnt; rw [if_pos (Or.inl hlo)]), xw_end ht hW⟩, hS.F ht⟩) hS.2.2 dX7_count_143
    · exact absurd c_4 (by decide)
  · have hin : xr_in v.toInt64 0 4 = nI 0 := by rw [xr_in_i v (nI 0) (nI 4) (by decide) (by decide)]; exact (if_neg (xi_hi hhi (by decide))).trans (if_neg (fun z => absurd (Int32.le_trans hhi z) (by decide)))
    refine lv_iload_n hx hb dX7_count_0 rfl (lv_at hl 1 rfl) ?_
    refine lv_tableOut (tgt := 120) hx hb dX7_count_1 (xi_thi hhi (by decide) rfl) (by decide) ?_
    refine lv_iload_n hx hb dX7_count_120 rfl (lv_at hl 1 rfl) ?_
    refine lv_i2l (v := (v).toInt64) hx hb dX7_count_121 rfl ?_
    refine lv_lconst (v := 0) hx hb dX7_count_122 rfl ?_
    refine lv_ldc2 (v := 4) hx hb hown (hts (.constantLong RX7 138 (4)) (List.mem_of_getElem? (i := 4) (by decide +kernel))) dX7_count_123 ?_
    refine xc_i (xr_S (As := [.long (v).toInt64, .long (0 : Int64), .long (4 : Int64)]) (rest := []) ⟨hx, hb, hml, hown, hts⟩ (c_X7_in l O M (v).toInt64 (0 : Int64) (4 : Int64)) (va_cwS 3 hts gX7_count_X7_in rfl rfl rfl (by decide +kernel) ⟨Nat.le_of_ble_eq_true rfl, Nat.le_of_ble_eq_true rfl⟩) hK hst hnw hS hW rfl hl.1 rfl (Nat.le_of_ble_eq_true rfl) dX7_count_126 ⟨Nat.zero_le _, Nat.zero_le _⟩) hS (fun r_7 M_5 H locs hq_6 hW hS => ?_)
    obtain ⟨hq_6a, hq_6b⟩ := hq_6
    rw [hq_6b] at hW
    rw [hq_6a]
    rw [hin]
    refine lv_if_eq (tgt := 141) hx hb dX7_count_129 (by decide) (fun c_8 => ?_) (fun c_8 => ?_)
    · refine lv_bipush (v := (-2)) hx hb dX7_count_141 (by decide) ?_
      exact W.iret (v := (-2)) hx hb hr (fun t ht hWm => ⟨⟨(-2), M, rfl, (by unfold xa_cnt; rw [if_pos (Or.inr hhi)]), xw_end ht hW⟩, hS.F ht⟩) hS.2.2 dX7_count_143
    · exact absurd c_8 (by decide)
  · rcases (show k = 0 ∨ k = 1 ∨ k = 2 ∨ k = 3 ∨ k = 4 ∨ k = 5 ∨ k = 6 ∨ k = 7 ∨ k = 8 ∨ k = 9 ∨ k = 10 ∨ k = 11 ∨ k = 12 ∨ k = 13 ∨ k = 14 ∨ k = 15 ∨ k = 16 by omega) with rfl | rfl | rfl | rfl | rfl | rfl | rfl | rfl | rfl | rfl | rfl | rfl | rfl | rfl | rfl | rfl | rfl
    · refine lv_iload_n hx hb dX7_count_0 rfl (lv_at hl 1 rfl) ?_
      refine lv_tableOut (tgt := 120) hx hb dX7_count_1 (by decide) (by decide) ?_
      refine lv_iload_n hx hb dX7_count_120 rfl (lv_at hl 1 rfl) ?_
      refine lv_i2l (v := ((nI 0)).toInt64) hx hb dX7_count_121 rfl ?_
      refine lv_lconst (v := 0) hx hb dX7_count_122 rfl ?_
      refine lv_ldc2 (v := 4) hx hb hown (hts (.constantLong RX7 138 (4)) (List.mem_of_getElem? (i := 4) (by decide +kernel))) dX7_count_123 ?_
      refine xc_i (xr_S (As := [.long ((nI 0)).toInt64, .long (0 : Int64), .long (4 : Int64)]) (rest := []) ⟨hx, hb, hml, hown, hts⟩ (c_X7_in l O M ((nI 0)).toInt64 (0 : Int64) (4 : Int64)) (va_cwS 3 hts gX7_count_X7_in rfl rfl rfl (by decide +kernel) ⟨Nat.le_of_ble_eq_true rfl, Nat.le_of_ble_eq_true rfl⟩) hK hst hnw hS hW rfl hl.1 rfl (Nat.le_of_ble_eq_true rfl) dX7_count_126 ⟨Nat.zero_le _, Nat.zero_le _⟩) hS (fun r_11 M_9 H locs hq_10 hW hS => ?_)
      obtain ⟨hq_10a, hq_10b⟩ := hq_10
      rw [hq_10b] at hW
      rw [hq_10a]
      rw [show xr_in (nI 0).toInt64 0 4 = nI 1 from by decide]
      refine lv_if_eq (tgt := 141) hx hb dX7_count_129 (by decide) (fun c_12 => ?_) (fun c_12 => ?_)
      · exact absurd c_12 (by decide)
      · refine lv_aload_n hx hb dX7_count_132 rfl (lv_at hl 0 rfl) ?_
        refine xg_get (κ := 20) (ci := 7) (C := RX7) (T := TX7) (N := 12) hx hb hts inX7 hown hK hW hτ (by decide) rfl rfl 0 (by decide) (hts (.fieldLink RX7 7 "HalfTicketsModel" "all" "[I") (List.mem_of_getElem? (i := 1) (by decide +kernel))) (fun _ h9 => h9) rfl dX7_count_133 ?_
        refine lv_iload_n hx hb dX7_count_136 rfl (lv_at hl 1 rfl) ?_
        refine xg_iald (κ := 426) (n := 326) hx hb hK hW (O.n1 hτ) (by decide) rfl 0 rfl (by decide) (by decide) dX7_count_137 ?_
        refine lv_goto (tgt := 143) hx hb dX7_count_138 (by decide) ?_
        exact W.iret (v := (M (r + 1) 0)) hx hb hr (fun t ht hWm => ⟨⟨(M (r + 1) 0), M, rfl, (show (M (r + 1) 0) = xa_cnt (nI 0) by rw [hF.1 _ (by decide)]; decide), xw_end ht hW⟩, hS.F ht⟩) hS.2.2 dX7_count_143
    · refine lv_iload_n hx hb dX7_count_0 rfl (lv_at hl 1 rfl) ?_
      refine lv_tableOut (tgt := 120) hx hb dX7_count_1 (by decide) (by decide) ?_
      refine lv_iload_n hx hb dX7_count_120 rfl (lv_at hl 1 rfl) ?_
      refine lv_i2l (v := ((nI 1)).toInt64) hx hb dX7_count_121 rfl ?_
      refine lv_lconst (v := 0) hx hb dX7_count_122 rfl ?_
      refine lv_ldc2 (v := 4) hx hb hown (hts (.constantLong RX7 138 (4)) (List.mem_of_getElem? (i := 4) (by decide +kernel))) dX7_count_123 ?_
      refine xc_i (xr_S (As := [.long ((nI 1)).toInt64, .long (0 : Int64), .long (4 : Int64)]) (rest := []) ⟨hx, hb, hml, hown, hts⟩ (c_X7_in l O M ((nI 1)).toInt64 (0 : Int64) (4 : Int64)) (va_cwS 3 hts gX7_count_X7_in rfl rfl rfl (by decide +kernel) ⟨Nat.le_of_ble_eq_true rfl, Nat.le_of_ble_eq_true rfl⟩) hK hst hnw hS hW rfl hl.1 rfl (Nat.le_of_ble_eq_true rfl) dX7_count_126 ⟨Nat.zero_le _, Nat.zero_le _⟩) hS (fun r_15 M_13 H locs hq_14 hW hS => ?_)
      obtain ⟨hq_14a, hq_14b⟩ := hq_14
      rw [hq_14b] at hW
      rw [hq_14a]
      rw [show xr_in (nI 1).toInt64 0 4 = nI 1 from by decide]
      refine lv_if_eq (tgt := 141) hx hb dX7_count_129 (by decide) (fun c_16 => ?_) (fun c_16 => ?_)
      · exact absurd c_16 (by decide)
      · refine lv_aload_n hx hb dX7_count_132 rfl (lv_at hl 0 rfl) ?_
        refine xg_get (κ := 20) (ci := 7) (C := RX7) (T := TX7) (N := 12) hx hb hts inX7 hown hK hW hτ (by decide) rfl rfl 0 (by decide) (hts (.fieldLink RX7 7 "HalfTicketsModel" "all" "[I") (List.mem_of_getElem? (i := 1) (by decide +kernel))) (fun _ h9 => h9) rfl dX7_count_133 ?_
        refine lv_iload_n hx hb dX7_count_136 rfl (lv_at hl 1 rfl) ?_
        refine xg_iald (κ := 426) (n := 326) hx hb hK hW (O.n1 hτ) (by decide) rfl 1 rfl (by decide) (by decide) dX7_count_137 ?_
        refine lv_goto (tgt := 143) hx hb dX7_count_138 (by decide) ?_
        exact W.iret (v := (M (r + 1) 1)) hx hb hr (fun t ht hWm => ⟨⟨(M (r + 1) 1), M, rfl, (show (M (r + 1) 1) = xa_cnt (nI 1) by rw [hF.1 _ (by decide)]; decide), xw_end ht hW⟩, hS.F ht⟩) hS.2.2 dX7_count_143
    · refine lv_iload_n hx hb dX7_count_0 rfl (lv_at hl 1 rfl) ?_
      refine lv_tableOut (tgt := 120) hx hb dX7_count_1 (by decide) (by decide) ?_
      refine lv_iload_n hx hb dX7_count_120 rfl (lv_at hl 1 rfl) ?_
      refine lv_i2l (v := ((nI 2)).toInt64) hx hb dX7_count_121 rfl ?_
      refine lv_lconst (v := 0) hx hb dX7_count_122 rfl ?_
      refine lv_ldc2 (v := 4) hx hb hown (hts (.constantLong RX7 138 (4)) (List.mem_of_getElem? (i := 4) (by decide +kernel))) dX7_count_123 ?_
      refine xc_i (xr_S (As := [.long ((nI 2)).toInt64, .long (0 : Int64), .long (4 : Int64)]) (rest := []) ⟨hx, hb, hml, hown, hts⟩ (c_X7_in l O M ((nI 2)).toInt64 (0 : Int64) (4 : Int64)) (va_cwS 3 hts gX7_count_X7_in rfl rfl rfl (by decide +kernel) ⟨Nat.le_of_ble_eq_true rfl, Nat.le_of_ble_eq_true rfl⟩) hK hst hnw hS hW rfl hl.1 rfl (Nat.le_of_ble_eq_true rfl) dX7_count_126 ⟨Nat.zero_le _, Nat.zero_le _⟩) hS (fun r_19 M_17 H locs hq_18 hW hS => ?_)
      obtain ⟨hq_18a, hq_18b⟩ := hq_18
      rw [hq_18b] at hW
      rw [hq_18a]
      rw [show xr_in (nI 2).toInt64 0 4 = nI 1 from by decide]
      refine lv_if_eq (tgt := 141) hx hb dX7_count_129 (by decide) (fun c_20 => ?_) (fun c_20 => ?_)
      · exact absurd c_20 (by decide)
      · refine lv_aload_n hx hb dX7_count_132 rfl (lv_at hl 0 rfl) ?_
        refine xg_get (κ := 20) (ci := 7) (C := RX7) (T := TX7) (N := 12) hx hb hts inX7 hown hK hW hτ (by decide) rfl rfl 0 (by decide) (hts (.fieldLink RX7 7 "HalfTicketsModel" "all" "[I") (List.mem_of_getElem? (i := 1) (by decide +kernel))) (fun _ h9 => h9) rfl dX7_count_133 ?_
        refine lv_iload_n hx hb dX7_count_136 rfl (lv_at hl 1 rfl) ?_
        refine xg_iald (κ := 426) (n := 326) hx hb hK hW (O.n1 hτ) (by decide) rfl 2 rfl (by decide) (by decide) dX7_count_137 ?_
        refine lv_goto (tgt := 143) hx hb dX7_count_138 (by decide) ?_
        exact W.iret (v := (M (r + 1) 2)) hx hb hr (fun t ht hWm => ⟨⟨(M (r + 1) 2), M, rfl, (show (M (r + 1) 2) = xa_cnt (nI 2) by rw [hF.1 _ (by decide)]; decide), xw_end ht hW⟩, hS.F ht⟩) hS.2.2 dX7_count_143
    · refine lv_iload_n hx hb dX7_count_0 rfl (lv_at hl 1 rfl) ?_
      refine lv_tableOut (tgt := 120) hx hb dX7_count_1 (by decide) (by decide) ?_
      refine lv_iload_n hx hb dX7_count_120 rfl (lv_at hl 1 rfl) ?_
      refine lv_i2l (v := ((nI 3)).toInt64) hx hb dX7_count_121 rfl ?_
      refine lv_lconst (v := 0) hx hb dX7_count_122 rfl ?_
      refine lv_ldc2 (v := 4) hx hb hown (hts (.constantLong RX7 138 (4)) (List.mem_of_getElem? (i := 4) (by decide +kernel))) dX7_count_123 ?_
      refine xc_i (xr_S (As := [.long ((nI 3)).toInt64, .long (0 : Int64), .long (4 : Int64)]) (rest := []) ⟨hx, hb, hml, hown, hts⟩ (c_X7_in l O M ((nI 3)).toInt64 (0 : Int64) (4 : Int64)) (va_cwS 3 hts gX7_count_X7_in rfl rfl rfl (by decide +kernel) ⟨Nat.le_of_ble_eq_true rfl, Nat.le_of_ble_eq_true rfl⟩) hK hst hnw hS hW rfl hl.1 rfl (Nat.le_of_ble_eq_true rfl) dX7_count_126 ⟨Nat.zero_le _, Nat.zero_le _⟩) hS (fun r_23 M_21 H locs hq_22 hW hS => ?_)
      obtain ⟨hq_22a, hq_22b⟩ := hq_22
      rw [hq_22b] at hW
      rw [hq_22a]
      rw [show xr_in (nI 3).toInt64 0 4 = nI 1 from by decide]
      refine lv_if_eq (tgt := 141) hx hb dX7_count_129 (by decide) (fun c_24 => ?_) (fun c_24 => ?_)
      · exact absurd c_24 (by decide)
      · refine lv_aload_n hx hb dX7_count_132 rfl (lv_at hl 0 rfl) ?_
        refine xg_get (κ := 20) (ci := 7) (C := RX7) (T := TX7) (N := 12) hx hb hts inX7 hown hK hW hτ (by decide) rfl rfl 0 (by decide) (hts (.fieldLink RX7 7 "HalfTicketsModel" "all" "[I") (List.mem_of_getElem? (i := 1) (by decide +kernel))) (fun _ h9 => h9) rfl dX7_count_133 ?_
        refine lv_iload_n hx hb dX7_count_136 rfl (lv_at hl 1 rfl) ?_
        refine xg_iald (κ := 426) (n := 326) hx hb hK hW (O.n1 hτ) (by decide) rfl 3 rfl (by decide) (by decide) dX7_count_137 ?_
        refine lv_goto (tgt := 143) hx hb dX7_count_138 (by decide) ?_
        exact W.iret (v := (M (r + 1) 3)) hx hb hr (fun t ht hWm => ⟨⟨(M (r + 1) 3), M, rfl, (show (M (r + 1) 3) = xa_cnt (nI 3) by rw [hF.1 _ (by decide)]; decide), xw_end ht hW⟩, hS.F ht⟩) hS.2.2 dX7_count_143
    · refine lv_iload_n hx hb dX7_count_0 rfl (lv_at hl 1 rfl) ?_
      refine lv_tableOut (tgt := 120) hx hb dX7_count_1 (by decide) (by decide) ?_
      refine lv_iload_n hx hb dX7_count_120 rfl (lv_at hl 1 rfl) ?_
      refine lv_i2l (v := ((nI 4)).toInt64) hx hb dX7_count_121 rfl ?_
      refine lv_lconst (v := 0) hx hb dX7_count_122 rfl ?_
      refine lv_ldc2 (v := 4) hx hb hown (hts (.constantLong RX7 138 (4)) (List.mem_of_getElem? (i := 4) (by decide +kernel))) dX7_count_123 ?_
      refine xc_i (xr_S (As := [.long ((nI 4)).toInt64, .long (0 : Int64), .long (4 : Int64)]) (rest := []) ⟨hx, hb, hml, hown, hts⟩ (c_X7_in l O M ((nI 4)).toInt64 (0 : Int64) (4 : Int64)) (va_cwS 3 hts gX7_count_X7_in rfl rfl rfl (by decide +kernel) ⟨Nat.le_of_ble_eq_true rfl, Nat.le_of_ble_eq_true rfl⟩) hK hst hnw hS hW rfl hl.1 rfl (Nat.le_of_ble_eq_true rfl) dX7_count_126 ⟨Nat.zero_le _, Nat.zero_le _⟩) hS (fun r_27 M_25 H locs hq_26 hW hS => ?_)
      obtain ⟨hq_26a, hq_26b⟩ := hq_26
      rw [hq_26b] at hW
      rw [hq_26a]
      rw [show xr_in (nI 4).toInt64 0 4 = nI 1 from by decide]
      refine lv_if_eq (tgt := 141) hx hb dX7_count_129 (by decide) (fun c_28 => ?_) (fun c_28 => ?_)
      · exact absurd c_28 (by decide)
      · refine lv_aload_n hx hb dX7_count_132 rfl (lv_at hl 0 rfl) ?_
        refine xg_get (κ := 20) (ci := 7) (C := RX7) (T := TX7) (N := 12) hx hb hts inX7 hown hK hW hτ (by decide) rfl rfl 0 (by decide) (hts (.fieldLink RX7 7 "HalfTicketsModel" "all" "[I") (List.mem_of_getElem? (i := 1) (by decide +kernel))) (fun _ h9 => h9) rfl dX7_count_133 ?_
        refine lv_iload_n hx hb dX7_count_136 rfl (lv_at hl 1 rfl) ?_
        refine xg_iald (κ := 426) (n := 326) hx hb hK hW (O.n1 hτ) (by decide) rfl 4 rfl (by decide) (by decide) dX7_count_137 ?_
        refine lv_goto (tgt := 143) hx hb dX7_count_138 (by decide) ?_
        exact W.iret (v := (M (r + 1) 4)) hx hb hr (fun t ht hWm => ⟨⟨(M (r + 1) 4), M, rfl, (show (M (r + 1) 4) = xa_cnt (nI 4) by rw [hF.1 _ (by decide)]; decide), xw_end ht hW⟩, hS.F ht⟩) hS.2.2 dX7_count_143
    · refine lv_iload_n hx hb dX7_count_0 rfl (lv_at hl 1 rfl) ?_
      refine lv_tableIn (off := 63) (tgt := 64) hx hb dX7_count_1 (by decide) (by decide) (by decide) (by decide) ?_
      refine lv_aload_n hx hb dX7_count_64 rfl (lv_at hl 0 rfl) ?_
      refine lv_iload_n hx hb dX7_count_65 rfl (lv_at hl 1 rfl) ?_
      refine lv_iconst (v := (nI 5)) hx hb dX7_count_66 (by decide) ?_
      refine lv_isub hx hb dX7_count_67 ?_
      refine xc_i (xr_V (As := [.int ((nI 5) - (nI 5))]) (rest := []) (κ := 20) ⟨hx, hb, hml, hown, hts⟩ (c_X7_thatAre l O M r hτ (xr_p hF) ((nI 5) - (nI 5))) (cwV 1 hts gX7_count_X7_thatAre rfl rfl rfl (by decide +kernel) ⟨Nat.le_of_ble_eq_true rfl, Nat.le_of_ble_eq_true rfl⟩) hK hst hnw hS hW hτ (by decide) rfl rfl rfl hl.1 rfl (Nat.le_of_ble_eq_true rfl) dX7_count_68 ⟨Nat.zero_le _, Nat.zero_le _⟩) hS (fun r_31 M_29 H locs hq_30 hW hS => ?_)
      obtain ⟨hq_30a, hq_30b⟩ := hq_30
      rw [hq_30b] at hW
      rw [hq_30a]
      exact W.iret (v := (nI 0)) hx hb hr (fun t ht hWm => ⟨⟨(nI 0), M, rfl, (show (nI 0) = xa_cnt (nI 5) by decide), xw_end ht hW⟩, hS.F ht⟩) hS.2.2 dX7_count_71
    · refine lv_iload_n hx hb dX7_count_0 rfl (lv_at hl 1 rfl) ?_
      refine lv_tableIn (off := 63) (tgt := 64) hx hb dX7_count_1 (by decide) (by decide) (by decide) (by decide) ?_
      refine lv_aload_n hx hb dX7_count_64 rfl (lv_at hl 0 rfl) ?_
      refine lv_iload_n hx hb dX7_count_65 rfl (lv_at hl 1 rfl) ?_
      refine lv_iconst (v := (nI 5)) hx hb dX7_count_66 (by decide) ?_
      refine lv_isub hx hb dX7_count_67 ?_
      refine xc_i (xr_V (As := [.int ((nI 6) - (nI 5))]) (rest := []) (κ := 20) ⟨hx, hb, hml, hown, hts⟩ (c_X7_thatAre l O M r hτ (xr_p hF) ((nI 6) - (nI 5))) (cwV 1 hts gX7_count_X7_thatAre rfl rfl rfl (by decide +kernel) ⟨Nat.le_of_ble_eq_true rfl, Nat.le_of_ble_eq_true rfl⟩) hK hst hnw hS hW hτ (by decide) rfl rfl rfl hl.1 rfl (Nat.le_of_ble_eq_true rfl) dX7_count_68 ⟨Nat.zero_le _, Nat.zero_le _⟩) hS (fun r_34 M_32 H locs hq_33 hW hS => ?_)
      obtain ⟨hq_33a, hq_33b⟩ := hq_33
      rw [hq_33b] at hW
      rw [hq_33a]
      exact W.iret (v := (nI 0)) hx hb hr (fun t ht hWm => ⟨⟨(nI 0), M, rfl, (show (nI 0) = xa_cnt (nI 6) by decide), xw_end ht hW⟩, hS.F ht⟩) hS.2.2 dX7_count_71
    · refine lv_iload_n hx hb dX7_count_0 rfl (lv_at hl 1 rfl) ?_
      refine lv_tableIn (off := 63) (tgt := 64) hx hb dX7_count_1 (by decide) (by decide) (by decide) (by decide) ?_
      refine lv_aload_n hx hb dX7_count_64 rfl (lv_at hl 0 rfl) ?_
      refine lv_iload_n hx hb dX7_count_65 rfl (lv_at hl 1 rfl) ?_
      refine lv_iconst (v := (nI 5)) hx hb dX7_count_66 (by decide) ?_
      refine lv_isub hx hb dX7_count_67 ?_
      refine xc_i (xr_V (As := [.int ((nI 7) - (nI 5))]) (rest := []) (κ := 20) ⟨hx, hb, hml, hown, hts⟩ (c_X7_thatAre l O M r hτ (xr_p hF) ((nI 7) - (nI 5))) (cwV 1 hts gX7_count_X7_thatAre rfl rfl rfl (by decide +kernel) ⟨Nat.le_of_ble_eq_true rfl, Nat.le_of_ble_eq_true rfl⟩) hK hst hnw hS hW hτ (by decide) rfl rfl rfl hl.1 rfl (Nat.le_of_ble_eq_true rfl) dX7_count_68 ⟨Nat.zero_le _, Nat.zero_le _⟩) hS (fun r_37 M_35 H locs hq_36 hW hS => ?_)
      obtain ⟨hq_36a, hq_36b⟩ := hq_36
      rw [hq_36b] at hW
      rw [hq_36a]
      exact W.iret (v := (nI 0)) hx hb hr (fun t ht hWm => ⟨⟨(nI 0), M, rfl, (show (nI 0) = xa_cnt (nI 7) by decide), xw_end ht hW⟩, hS.F ht⟩) hS.2.2 dX7_count_71
    · refine lv_iload_n hx hb dX7_count_0 rfl (lv_at hl 1 rfl) ?_
      refine lv_tableIn (off := 63) (tgt := 64) hx hb dX7_count_1 (by decide) (by decide) (by decide) (by decide) ?_
      refine lv_aload_n hx hb dX7_count_64 rfl (lv_at hl 0 rfl) ?_
      refine lv_iload_n hx hb dX7_count_65 rfl (lv_at hl 1 rfl) ?_
      refine lv_iconst (v := (nI 5)) hx hb dX7_count_66 (by decide) ?_
      refine lv_isub hx hb dX7_count_67 ?_
      refine xc_i (xr_V (As := [.int ((nI 8) - (nI 5))]) (rest := []) (κ := 20) ⟨hx, hb, hml, hown, hts⟩ (c_X7_thatAre l O M r hτ (xr_p hF) ((nI 8) - (nI 5))) (cwV 1 hts gX7_count_X7_thatAre rfl rfl rfl (by decide +kernel) ⟨Nat.le_of_ble_eq_true rfl, Nat.le_of_ble_eq_true rfl⟩) hK hst hnw hS hW hτ (by decide) rfl rfl rfl hl.1 rfl (Nat.le_of_ble_eq_true rfl) dX7_count_68 ⟨Nat.zero_le _, Nat.zero_le _⟩) hS (fun r_40 M_38 H locs hq_39 hW hS => ?_)
      obtain ⟨hq_39a, hq_39b⟩ := hq_39
      rw [hq_39b] at hW
      rw [hq_39a]
      exact W.iret (v := (nI 0)) hx hb hr (fun t ht hWm => ⟨⟨(nI 0), M, rfl, (show (nI 0) = xa_cnt (nI 8) by decide), xw_end ht hW⟩, hS.F ht⟩) hS.2.2 dX7_count_71
    · refine lv_iload_n hx hb dX7_count_0 rfl (lv_at hl 1 rfl) ?_
      refine lv_tableIn (off := 71) (tgt := 72) hx hb dX7_count_1 (by decide) (by decide) (by decide) (by decide) ?_
      refine lv_aload_n hx hb dX7_count_72 rfl (lv_at hl 0 rfl) ?_
      refine lv_bipush (v := (nI 20)) hx hb dX7_count_73 (by decide) ?_
      refine xc_i (xr_V (As := [.int (nI 20)]) (rest := []) (κ := 20) ⟨hx, hb, hml, hown, hts⟩ (c_X7_sum l O M r hτ (o := 20) (by decide)) (cwV 1 hts gX7_count_X7_sum rfl rfl rfl (by decide +kernel) ⟨Nat.le_of_ble_eq_true rfl, Nat.le_of_ble_eq_true rfl⟩) hK hst hnw hS hW hτ (by decide) rfl rfl rfl hl.1 rfl (Nat.le_of_ble_eq_true rfl) dX7_count_75 ⟨Nat.zero_le _, Nat.zero_le _⟩) hS (fun r_43 M_41 H locs hq_42 hW hS => ?_)
      obtain ⟨hq_42a, hq_42b⟩ := hq_42
      rw [hq_42b] at hW
      rw [hq_42a]
      exact W.iret (v := (xf_sum (fun k => M (r + 1) (20 + k)) 6)) hx hb hr (fun t ht hWm => ⟨⟨(xf_sum (fun k => M (r + 1) (20 + k)) 6), M, rfl, (show (xf_sum (fun k => M (r + 1) (20 + k)) 6) = xa_cnt (nI 9) by rw [xf_sum_c (f' := fun _ => nI 8) (fun k hk => (hF.1 _ (by omega)).trans (xm_8 (by omega)))]; decide), xw_end ht hW⟩, hS.F ht⟩) hS.2.2 dX7_count_78
    · refine lv_iload_n hx hb dX7_count_0 rfl (lv_at hl 1 rfl) ?_
      refine lv_tableIn (off := 78) (tgt := 79) hx hb dX7_count_1 (by decide) (by decide) (by decide) (by decide) ?_
      refine lv_aload_n hx hb dX7_count_79 rfl (lv_at hl 0 rfl) ?_
      refine lv_iconst (v := (nI 4)) hx hb dX7_count_80 (by decide) ?_
      refine xc_i (xr_V (As := [.int (nI 4)]) (rest := []) (κ := 20) ⟨hx, hb, hml, hown, hts⟩ (c_X7_sumOf l O M r hτ (xr_p hF) (nI 4)) (cwV 1 hts gX7_count_X7_sumOf rfl rfl rfl (by decide +kernel) ⟨Nat.le_of_ble_eq_true rfl, Nat.le_of_ble_eq_true rfl⟩) hK hst hnw hS hW hτ (by decide) rfl rfl rfl hl.1 rfl (Nat.le_of_ble_eq_true rfl) dX7_count_81 ⟨Nat.zero_le _, Nat.zero_le _⟩) hS (fun r_46 M_44 H locs hq_45 hW hS => ?_)
      obtain ⟨hq_45a, hq_45b⟩ := hq_45
      rw [hq_45b] at hW
      rw [hq_45a]
      exact W.iret (v := (nI 0)) hx hb hr (fun t ht hWm => ⟨⟨(nI 0), M, rfl, (show (nI 0) = xa_cnt (nI 10) by decide), xw_end ht hW⟩, hS.F ht⟩) hS.2.2 dX7_count_84
    · refine lv_iload_n hx hb dX7_count_0 rfl (lv_at hl 1 rfl) ?_
      refine lv_tableIn (off := 84) (tgt := 85) hx hb dX7_count_1 (by decide) (by decide) (by decide) (by decide) ?_
      refine lv_aload_n hx hb dX7_count_85 rfl (lv_at hl 0 rfl) ?_
      refine xg_get (κ := 20) (ci := 7) (C := RX7) (T := TX7) (N := 12) hx hb hts inX7 hown hK hW hτ (by decide) rfl rfl 0 (by decide) (hts (.fieldLink RX7 7 "HalfTicketsModel" "all" "[I") (List.mem_of_getElem? (i := 1) (by decide +kernel))) (fun _ h9 => h9) rfl dX7_count_86 ?_
      refine lv_iconst (v := (nI 5)) hx hb dX7_count_89 (by decide) ?_
      refine lv_iload_n hx hb dX7_count_90 rfl (lv_at hl 1 rfl) ?_
      refine lv_iadd hx hb dX7_count_91 ?_
      refine lv_bipush (v := (nI 11)) hx hb dX7_count_92 (by decide) ?_
      refine lv_isub hx hb dX7_count_94 ?_
      refine xg_iald (κ := 426) (n := 326) hx hb hK hW (O.n1 hτ) (by decide) rfl 5 (by decide) (by decide) (by decide) dX7_count_95 ?_
      exact W.iret (v := (M (r + 1) 5)) hx hb hr (fun t ht hWm => ⟨⟨(M (r + 1) 5), M, rfl, (show (M (r + 1) 5) = xa_cnt (nI 11) by rw [hF.1 _ (by decide)]; decide), xw_end ht hW⟩, hS.F ht⟩) hS.2.2 dX7_count_96
    · refine lv_iload_n hx hb dX7_count_0 rfl (lv_at hl 1 rfl) ?_
      refine lv_tableIn (off := 84) (tgt := 85) hx hb dX7_count_1 (by decide) (by decide) (by decide) (by decide) ?_
      refine lv_aload_n hx hb dX7_count_85 rfl (lv_at hl 0 rfl) ?_
      refine xg_get (κ := 20) (ci := 7) (C := RX7) (T := TX7) (N := 12) hx hb hts inX7 hown hK hW hτ (by decide) rfl rfl 0 (by decide) (hts (.fieldLink RX7 7 "HalfTicketsModel" "all" "[I") (List.mem_of_getElem? (i := 1) (by decide +kernel))) (fun _ h9 => h9) rfl dX7_count_86 ?_
      refine lv_iconst (v := (nI 5)) hx hb dX7_count_89 (by decide) ?_
      refine lv_iload_n hx hb dX7_count_90 rfl (lv_at hl 1 rfl) ?_
      refine lv_iadd hx hb dX7_count_91 ?_
      refine lv_bipush (v := (nI 11)) hx hb dX7_count_92 (by decide) ?_
      refine lv_isub hx hb dX7_count_94 ?_
      refine xg_iald (κ := 426) (n := 326) hx hb hK hW (O.n1 hτ) (by decide) rfl 6 (by decide) (by decide) (by decide) dX7_count_95 ?_
      exact W.iret (v := (M (r + 1) 6)) hx hb hr (fun t ht hWm => ⟨⟨(M (r + 1) 6), M, rfl, (show (M (r + 1) 6) = xa_cnt (nI 12) by rw [hF.1 _ (by decide)]; decide), xw_end ht hW⟩, hS.F ht⟩) hS.2.2 dX7_count_96
    · refine lv_iload_n hx hb dX7_count_0 rfl (lv_at hl 1 rfl) ?_
      refine lv_tableIn (off := 96) (tgt := 97) hx hb dX7_count_1 (by decide) (by decide) (by decide) (by decide) ?_
      refine lv_aload_n hx hb dX7_count_97 rfl (lv_at hl 0 rfl) ?_
      refine lv_iconst (v := (nI 5)) hx hb dX7_count_98 (by decide) ?_
      refine xc_i (xr_V (As := [.int (nI 5)]) (rest := []) (κ := 20) ⟨hx, hb, hml, hown, hts⟩ (c_X7_sumOf l O M r hτ (xr_p hF) (nI 5)) (cwV 1 hts gX7_count_X7_sumOf rfl rfl rfl (by decide +kernel) ⟨Nat.le_of_ble_eq_true rfl, Nat.le_of_ble_eq_true rfl⟩) hK hst hnw hS hW hτ (by decide) rfl rfl rfl hl.1 rfl (Nat.le_of_ble_eq_true rfl) dX7_count_99 ⟨Nat.zero_le _, Nat.zero_le _⟩) hS (fun r_49 M_47 H locs hq_48 hW hS => ?_)
      obtain ⟨hq_48a, hq_48b⟩ := hq_48
      rw [hq_48b] at hW
      rw [hq_48a]
      exact W.iret (v := (nI 0)) hx hb hr (fun t ht hWm => ⟨⟨(nI 0), M, rfl, (show (nI 0) = xa_cnt (nI 13) by decide), xw_end ht hW⟩, hS.F ht⟩) hS.2.2 dX7_count_102
    · refine lv_iload_n hx hb dX7_count_0 rfl (lv_at hl 1 rfl) ?_
      refine lv_tableIn (off := 102) (tgt := 103) hx hb dX7_count_1 (by decide) (by decide) (by decide) (by decide) ?_
      refine lv_aload_n hx hb dX7_count_103 rfl (lv_at hl 0 rfl) ?_
      refine lv_bipush (v := (nI 32)) hx hb dX7_count_104 (by decide) ?_
      refine xc_i (xr_V (As := [.int (nI 32)]) (rest := []) (κ := 20) ⟨hx, hb, hml, hown, hts⟩ (c_X7_sum l O M r hτ (o := 32) (by decide)) (cwV 1 hts gX7_count_X7_sum rfl rfl rfl (by decide +kernel) ⟨Nat.le_of_ble_eq_true rfl, Nat.le_of_ble_eq_true rfl⟩) hK hst hnw hS hW hτ (by decide) rfl rfl rfl hl.1 rfl (Nat.le_of_ble_eq_true rfl) dX7_count_106 ⟨Nat.zero_le _, Nat.zero_le _⟩) hS (fun r_52 M_50 H locs hq_51 hW hS => ?_)
      obtain ⟨hq_51a, hq_51b⟩ := hq_51
      rw [hq_51b] at hW
      rw [hq_51a]
      exact W.iret (v := (xf_sum (fun k => M (r + 1) (32 + k)) 6)) hx hb hr (fun t ht hWm => ⟨⟨(xf_sum (fun k => M (r + 1) (32 + k)) 6), M, rfl, (show (xf_sum (fun k => M (r + 1) (32 + k)) 6) = xa_cnt (nI 14) by rw [xf_sum_0 (fun k hk => (hF.1 _ (by omega)).trans (xm_0 (by omega)))]; decide), xw_end ht hW⟩, hS.F ht⟩) hS.2.2 dX7_count_109
    · refine lv_iload_n hx hb dX7_count_0 rfl (lv_at hl 1 rfl) ?_
      refine lv_tableIn (off := 109) (tgt := 110) hx hb dX7_count_1 (by decide) (by decide) (by decide) (by decide) ?_
      refine lv_aload_n hx hb dX7_count_110 rfl (lv_at hl 0 rfl) ?_
      refine xg_get (κ := 20) (ci := 7) (C := RX7) (T := TX7) (N := 12) hx hb hts inX7 hown hK hW hτ (by decide) rfl rfl 8 (by decide) (hts (.fieldLink RX7 135 "HalfTicketsModel" "textLong" "I") (List.mem_of_getElem? (i := 2) (by decide +kernel))) (fun _ h9 => h9) rfl dX7_count_111 ?_
      exact W.iret (v := (M r 8)) hx hb hr (fun t ht hWm => ⟨⟨(M r 8), M, rfl, (show (M r 8) = xa_cnt (nI 15) by rw [hF.2.2.1]; decide), xw_end ht hW⟩, hS.F ht⟩) hS.2.2 dX7_count_114
    · refine lv_iload_n hx hb dX7_count_0 rfl (lv_at hl 1 rfl) ?_
      refine lv_tableIn (off := 114) (tgt := 115) hx hb dX7_count_1 (by decide) (by decide) (by decide) (by decide) ?_
      refine lv_aload_n hx hb dX7_count_115 rfl (lv_at hl 0 rfl) ?_
      refine xg_get (κ := 20) (ci := 7) (C := RX7) (T := TX7) (N := 12) hx hb hts inX7 hown hK hW hτ (by decide) rfl rfl 3 (by decide) (hts (.fieldLink RX7 37 "HalfTicketsModel" "historyLong" "I") (List.mem_of_getElem? (i := 3) (by decide +kernel))) (fun _ h9 => h9) rfl dX7_count_116 ?_
      exact W.iret (v := (M r 3)) hx hb hr (fun t ht hWm => ⟨⟨(M r 3), M, rfl, (show (M r 3) = xa_cnt (nI 16) by rw [hF.2.1]; decide), xw_end ht hW⟩, hS.F ht⟩) hS.2.2 dX7_count_119

set_option maxHeartbeats 4000000 in
set_option maxRecDepth 100000 in
/-- HalfTicketsModel.tally, new -/
theorem cm_tally (l : Launch) {G : va_G} {g : Nat → ClassId} {t0 τ : Nat → Nat} {A : Nat → Prop} (O : xk_O τ A) (M : xm_T) (r : Nat) (hτ : τ r = 20) (hp : M (r + 1) 4 = nI 0) (hs : ∀ k, k < 6 → M (r + 1) (32 + k) = nI 0) (v : Int32) : Met l yX7_tally wsX7_tally ({ frames := 3, cells := 0, slots := 0, locals := 90 }) (va_Pc [.ref r, .int v] (xS_t G g t0 τ A M)) (va_Qi (fun b M' => b = nI 0 ∧ M' = M) (fun M' t => xw_D G g τ M' t.heap) A) 0 0 A := by
  refine Met.ofW (cc := cX7_tally) (maxL := 2) (ret := (some .int)) (by decide) rfl ?_
  intro p e s m args below meth c s₁ B hml hv
  obtain ⟨rfl, hW, hK, hst, hnw⟩ := hv
  have hx := B.exec
  have hb := B.bytes
  have hr := B.returns
  have hts := atoms_spec (ws := wsX7_tally) B.pre
  have hown : s.vm.findClass RX7 = some m.cls := findClass_of_methodNamed B.named
  have hlocks := B.notSynchronized
  have hS : va_S A s.heap s.heap [] := va_S.rf
  have hl := lv_entry ([.ref r, .int v]) (n := 2) (Nat.le_of_ble_eq_true rfl)
  rw [lg_entry_eq]
  generalize (lg_sl ([.ref r, .int v]) ++ List.replicate (2 - (lg_sl ([.ref r, .int v])).length) Slot.unset).toArray = ls at hl ⊢
  have hl : lv_has ls 2 [(0, .ref r), (1, .int v)] := hl
  refine lv_iload_n hx hb dX7_tally_0 rfl (lv_at hl 1 rfl) ?_
  refine lv_iconst (v := (nI 2)) hx hb dX7_tally_1 (by decide) ?_
  refine lv_icmp_ge (tgt := 15) hx hb dX7_tally_2 (by decide) (fun c_1 => ?_) (fun c_1 => ?_)
  · refine lv_iload_n hx hb dX7_tally_15 rfl (lv_at hl 1 rfl) ?_
    refine lv_iconst (v := (nI 2)) hx hb dX7_tally_16 (by decide) ?_
    refine lv_icmp_ne (tgt := 28) hx hb dX7_tally_17 (by decide) (fun c_2 => ?_) (fun c_2 => ?_)
    · refine lv_aload_n hx hb dX7_tally_28 rfl (lv_at hl 0 rfl) ?_
      refine lv_bipush (v := (nI 32)) hx hb dX7_tally_29 (by decide) ?_
      refine xc_i (xr_V (As := [.int (nI 32)]) (rest := []) (κ := 20) ⟨hx, hb, hml, hown, hts⟩ (c_X7_sum l O M r hτ (o := 32) (by decide)) (cwV 1 hts gX7_tally_X7_sum rfl rfl rfl (by decide +kernel) ⟨Nat.le_of_ble_eq_true rfl, Nat.le_of_ble_eq_true rfl⟩) hK hst hnw hS hW hτ (by decide) rfl rfl rfl hl.1 rfl (Nat.le_of_ble_eq_true rfl) dX7_tally_31 ⟨Nat.zero_le _, Nat.zero_le _⟩) hS (fun r_5 M_3 H locs hq_4 hW hS => ?_)
      obtain ⟨hq_4a, hq_4b⟩ := hq_4
      rw [hq_4b] at hW
      rw [hq_4a]
      exact W.iret (v := (xf_sum (fun k => M (r + 1) (32 + k)) 6)) hx hb hr (fun t ht hWm => ⟨⟨(xf_sum (fun k => M (r + 1) (32 + k)) 6), M, rfl, ⟨xf_sum_0 hs, rfl⟩, xw_end ht hW⟩, hS.F ht⟩) hS.2.2 dX7_tally_34
    · refine lv_aload_n hx hb dX7_tally_20 rfl (lv_at hl 0 rfl) ?_
      refine lv_iconst (v := (nI 5)) hx hb dX7_tally_21 (by decide) ?_
      refine xc_i (xr_V (As := [.int (nI 5)]) (rest := []) (κ := 20) ⟨hx, hb, hml, hown, hts⟩ (c_X7_sumOf l O M r hτ hp (nI 5)) (cwV 1 hts gX7_tally_X7_sumOf rfl rfl rfl (by decide +kernel) ⟨Nat.le_of_ble_eq_true rfl, Nat.le_of_ble_eq_true rfl⟩) hK hst hnw hS hW hτ (by decide) rfl rfl rfl hl.1 rfl (Nat.le_of_ble_eq_true rfl) dX7_tally_22 ⟨Nat.zero_le _, Nat.zero_le _⟩) hS (fun r_8 M_6 H locs hq_7 hW hS => ?_)
      obtain ⟨hq_7a, hq_7b⟩ := hq_7
      rw [hq_7b] at hW
      rw [hq_7a]
      refine lv_goto (tgt := 34) hx hb dX7_tally_25 (by decide) ?_
      exact W.iret (v := (nI 0)) hx hb hr (fun t ht hWm => ⟨⟨(nI 0), M, rfl, ⟨rfl, rfl⟩, xw_end ht hW⟩, hS.F ht⟩) hS.2.2 dX7_tally_34
  · refine lv_aload_n hx hb dX7_tally_5 rfl (lv_at hl 0 rfl) ?_
    refine lv_iconst (v := (nI 2)) hx hb dX7_tally_6 (by decide) ?_
    refine lv_iload_n hx hb dX7_tally_7 rfl (lv_at hl 1 rfl) ?_
    refine lv_iadd hx hb dX7_tally_8 ?_
    refine xc_i (xr_V (As := [.int ((nI 2) + v)]) (rest := []) (κ := 20) ⟨hx, hb, hml, hown, hts⟩ (c_X7_thatAre l O M r hτ hp ((nI 2) + v)) (cwV 1 hts gX7_tally_X7_thatAre rfl rfl rfl (by decide +kernel) ⟨Nat.le_of_ble_eq_true rfl, Nat.le_of_ble_eq_true rfl⟩) hK hst hnw hS hW hτ (by decide) rfl rfl rfl hl.1 rfl (Nat.le_of_ble_eq_true rfl) dX7_tally_9 ⟨Nat.zero_le _, Nat.zero_le _⟩) hS (fun r_11 M_9 H locs hq_10 hW hS => ?_)
    obtain ⟨hq_10a, hq_10b⟩ := hq_10
    rw [hq_10b] at hW
    rw [hq_10a]
    refine lv_goto (tgt := 34) hx hb dX7_tally_12 (by decide) ?_
    exact W.iret (v := (nI 0)) hx hb hr (fun t ht hWm => ⟨⟨(nI 0), M, rfl, ⟨rfl, rfl⟩, xw_end ht hW⟩, hS.F ht⟩) hS.2.2 dX7_tally_34

set_option maxHeartbeats 4000000 in
set_option maxRecDepth 100000 in
/-- HalfTicketsModel.ifPassed, new -/
theorem cm_ifPassed (l : Launch) {G : va_G} {g : Nat → ClassId} {t0 τ : Nat → Nat} {A : Nat → Prop} (O : xk_O τ A) (M : xm_T) (r : Nat) (hτ : τ r = 20) (hp : M (r + 1) 4 = nI 0) (hs : ∀ k, k < 6 → M (r + 1) (32 + k) = nI 0) (t v : Int32) : Met l yX7_ifPassed wsX7_ifPassed ({ frames := 5, cells := 0, slots := 0, locals := 160 }) (va_Pc [.ref r, .int t, .int v] (xS_t G g t0 τ A M)) (va_Qi (fun b M' => b = xa_ifp t v ∧ ∀ x, x ≠ r + 2 → x ≠ r + 6 → M' x = M x) (fun M' t => xw_D G g τ M' t.heap) A) 0 0 A := by
  refine Met.ofW (cc := cX7_ifPassed) (maxL := 5) (ret := (some .int)) (by decide) rfl ?_
  intro p e s m args below meth c s₁ B hml hv
  obtain ⟨rfl, hW, hK, hst, hnw⟩ := hv
  have hx := B.exec
  have hb := B.bytes
  have hr := B.returns
  have hts := atoms_spec (ws := wsX7_ifPassed) B.pre
  have hown : s.vm.findClass RX7 = some m.cls := findClass_of_methodNamed B.named
  have hlocks := B.notSynchronized
  have hS : va_S A s.heap s.heap [] := va_S.rf
  have hl := lv_entry ([.ref r, .int t, .int v]) (n := 5) (Nat.le_of_ble_eq_true rfl)
  rw [lg_entry_eq]
  generalize (lg_sl ([.ref r, .int t, .int v]) ++ List.replicate (5 - (lg_sl ([.ref r, .int t, .int v])).length) Slot.unset).toArray = ls at hl ⊢
  have hl : lv_has ls 5 [(0, .ref r), (1, .int t), (2, .int v)] := hl
  refine lv_iload_n hx hb dX7_ifPassed_0 rfl (lv_at hl 1 rfl) ?_
  refine lv_i2l (v := (t).toInt64) hx hb dX7_ifPassed_1 rfl ?_
  refine lv_lconst (v := 1) hx hb dX7_ifPassed_2 rfl ?_
  refine lv_ldc2 (v := 300) hx hb hown (hts (.constantLong RX7 146 (300)) (List.mem_of_getElem? (i := 1) (by decide +kernel))) dX7_ifPassed_3 ?_
  refine xc_i (xr_S (As := [.long (t).toInt64, .long (1 : Int64), .long (300 : Int64)]) (rest := []) ⟨hx, hb, hml, hown, hts⟩ (c_X7_in l O M (t).toInt64 (1 : Int64) (300 : Int64)) (va_cwS 3 hts gX7_ifPassed_X7_in rfl rfl rfl (by decide +kernel) ⟨Nat.le_of_ble_eq_true rfl, Nat.le_of_ble_eq_true rfl⟩) hK hst hnw hS hW rfl hl.1 rfl (Nat.le_of_ble_eq_true rfl) dX7_ifPassed_6 ⟨Nat.zero_le _, Nat.zero_le _⟩) hS (fun r_3 M_1 H locs hq_2 hW hS => ?_)
  obtain ⟨hq_2a, hq_2b⟩ := hq_2
  rw [hq_2b] at hW
  rw [hq_2a]
  rw [xr_in_i t (nI 1) (nI 300) (by decide) (by decide)]
  by_cases hk1 : t < nI 1
  · rw [if_pos hk1]
    refine lv_if_eq (tgt := 24) hx hb dX7_ifPassed_9 (by decide) (fun c_4 => ?_) (fun c_4 => ?_)
    · refine lv_bipush (v := (-2)) hx hb dX7_ifPassed_24 (by decide) ?_
      exact W.iret (v := (-2)) hx hb hr (fun t ht hWm => ⟨⟨(-2), M, rfl, ⟨(by unfold xa_ifp; rw [if_pos hk1]), fun _ _ _ => rfl⟩, xw_end ht hW⟩, hS.F ht⟩) hS.2.2 dX7_ifPassed_26
    · exact absurd c_4 (by decide)
  · rw [if_neg hk1]
    by_cases hk2 : t ≤ nI 300
    · rw [if_pos hk2]
      refine lv_if_eq (tgt := 24) hx hb dX7_ifPassed_9 (by decide) (fun c_5 => ?_) (fun c_5 => ?_)
      · exact absurd c_5 (by decide)
      · refine lv_iload_n hx hb dX7_ifPassed_12 rfl (lv_at hl 2 rfl) ?_
        refine lv_i2l (v := (v).toInt64) hx hb dX7_ifPassed_13 rfl ?_
        refine lv_lconst (v := 0) hx hb dX7_ifPassed_14 rfl ?_
        refine lv_ldc2 (v := 3) hx hb hown (hts (.constantLong RX7 116 (3)) (List.mem_of_getElem? (i := 2) (by decide +kernel))) dX7_ifPassed_15 ?_
        refine xc_i (xr_S (As := [.long (v).toInt64, .long (0 : Int64), .long (3 : Int64)]) (rest := []) ⟨hx, hb, hml, hown, hts⟩ (c_X7_in l O M (v).toInt64 (0 : Int64) (3 : Int64)) (va_cwS 3 hts gX7_ifPassed_X7_in rfl rfl rfl (by decide +kernel) ⟨Nat.le_of_ble_eq_true rfl, Nat.le_of_ble_eq_true rfl⟩) hK hst hnw hS hW rfl hl.1 rfl (Nat.le_of_ble_eq_true rfl) dX7_ifPassed_18 ⟨Nat.zero_le _, Nat.zero_le _⟩) hS (fun r_8 M_6 H locs hq_7 hW hS => ?_)
        obtain ⟨hq_7a, hq_7b⟩ := hq_7
        rw [hq_7b] at hW
        rw [hq_7a]
        rw [xr_in_i v (nI 0) (nI 3) (by decide) (by decide)]
        by_cases hj1 : v < nI 0
        · rw [if_pos hj1]
          refine lv_if_ne (tgt := 27) hx hb dX7_ifPassed_21 (by decide) (fun c_9 => ?_) (fun c_9 => ?_)
          · exact absurd c_9 (by decide)
          · refine lv_bipush (v := (-2)) hx hb dX7_ifPassed_24 (by decide) ?_
            exact W.iret (v := (-2)) hx hb hr (fun t ht hWm => ⟨⟨(-2), M, rfl, ⟨(by unfold xa_ifp; rw [if_neg hk1, if_pos hk2]; exact (if_pos hj1).symm), fun _ _ _ => rfl⟩, xw_end ht hW⟩, hS.F ht⟩) hS.2.2 dX7_ifPassed_26
        · rw [if_neg hj1]
          by_cases hj2 : v ≤ nI 3
          · rw [if_pos hj2]
            refine lv_if_ne (tgt := 27) hx hb dX7_ifPassed_21 (by decide) (fun c_10 => ?_) (fun c_10 => ?_)
            · obtain ⟨k, hk, hkt⟩ := xi_ix2 (xi_1 hk1) hk2 (by decide)
              subst hkt
              refine lv_aload_n hx hb dX7_ifPassed_27 rfl (lv_at hl 0 rfl) ?_
              refine lv_iload_n hx hb dX7_ifPassed_28 rfl (lv_at hl 2 rfl) ?_
              refine xc_i (xr_V (As := [.int v]) (rest := []) (κ := 20) ⟨hx, hb, hml, hown, hts⟩ (cm_tally l O M r hτ hp hs v) (cwV 1 hts gX7_ifPassed_X7_tally rfl rfl rfl (by decide +kernel) ⟨Nat.le_of_ble_eq_true rfl, Nat.le_of_ble_eq_true rfl⟩) hK hst hnw hS hW hτ (by decide) rfl rfl rfl hl.1 rfl (Nat.le_of_ble_eq_true rfl) dX7_ifPassed_29 ⟨Nat.zero_le _, Nat.zero_le _⟩) hS (fun r_13 M_11 H locs hq_12 hW hS => ?_)
              obtain ⟨hq_12a, hq_12b⟩ := hq_12
              rw [hq_12b] at hW
              rw [hq_12a]
              refine lv_istore_n (lv' := [(3, .int (nI 0)), (0, .ref r), (1, .int (nI k)), (2, .int v)]) hx hb dX7_ifPassed_32 rfl hl (by decide) rfl (fun ls hl => ?_)
              refine lv_aload_n hx hb dX7_ifPassed_33 rfl (lv_at hl 1 rfl) ?_
              refine xc_v (xr_V (As := []) (rest := []) (κ := 20) ⟨hx, hb, hml, hown, hts⟩ (c_X7_keeps l O M r hτ) (cwV 0 hts gX7_ifPassed_X7_keeps rfl rfl rfl (by decide +kernel) ⟨Nat.le_of_ble_eq_true rfl, Nat.le_of_ble_eq_true rfl⟩) hK hst hnw hS hW hτ (by decide) rfl rfl rfl hl.1 rfl (Nat.le_of_ble_eq_true rfl) dX7_ifPassed_34 ⟨Nat.zero_le _, Nat.zero_le _⟩) hS (fun M_14 H locs hq_15 hW hS => ?_)
              have hkp := hq_15
              have hp1 : M_14 (r + 1) 4 = nI 0 := by rw [hkp.2 _ (by omega)]; exact hp
              have hs1 : ∀ k, k < 6 → M_14 (r + 1) (32 + k) = nI 0 := fun k hk => by rw [hkp.2 _ (by omega)]; exact hs k hk
              refine lv_iconst (v := (nI 0)) hx hb dX7_ifPassed_37 (by decide) ?_
              refine lv_istore (lv' := [(4, .int (nI 0)), (3, .int (nI 0)), (0, .ref r), (1, .int (nI k)), (2, .int v)]) hx hb dX7_ifPassed_38 hl (by decide) rfl (fun ls hl => ?_)
              refine xl_up (σ := xm_T) k (fun kk zz H locs ls => xw_D G g τ zz H ∧ va_S A s.heap H locs ∧ lv_has ls 5 [(4, .int (nI kk)), (3, .int (nI 0)), (0, .ref r), (1, .int (nI k)), (2, .int v)] ∧ xr_R r M_14 zz) (fun z40 H locs ls hI => ?_) (fun k40 z40 H locs ls hk40 hI ih40 => ?_) (k0 := 0) (z0 := M_14) (Nat.zero_le _) ⟨hW, hS, lv_sub hl [0, 1, 2, 3, 4] rfl, (xr_rf _ _)⟩
              · obtain ⟨hW, hS, hl, hE40⟩ := hI
                refine lv_iload hx hb dX7_ifPassed_40 (lv_at hl 0 rfl) ?_
                refine lv_iload_n hx hb dX7_ifPassed_42 rfl (lv_at hl 3 rfl) ?_
                refine lv_icmp_ge (tgt := 56) hx hb dX7_ifPassed_43 (by decide) (fun c_17 => ?_) (fun c_17 => ?_)
                · refine lv_aload_n hx hb dX7_ifPassed_56 rfl (lv_at hl 2 rfl) ?_
                  refine lv_iload_n hx hb dX7_ifPassed_57 rfl (lv_at hl 4 rfl) ?_
                  refine xc_i (xr_V (As := [.int v]) (rest := []) (κ := 20) ⟨hx, hb, hml, hown, hts⟩ (cm_tally l O z40 r hτ ((hE40.1 4 (by decide)).trans hp1) (fun k hk => (hE40.1 _ (by omega)).trans (hs1 k hk)) v) (cwV 1 hts gX7_ifPassed_X7_tally rfl rfl rfl (by decide +kernel) ⟨Nat.le_of_ble_eq_true rfl, Nat.le_of_ble_eq_true rfl⟩) hK hst hnw hS hW hτ (by decide) rfl rfl rfl hl.1 rfl (Nat.le_of_ble_eq_true rfl) dX7_ifPassed_58 ⟨Nat.zero_le _, Nat.zero_le _⟩) hS (fun r_20 M_18 H locs hq_19 hW hS => ?_)
                  obtain ⟨hq_19a, hq_19b⟩ := hq_19
                  rw [hq_19b] at hW
                  rw [hq_19a]
                  refine lv_iload_n hx hb dX7_ifPassed_61 rfl (lv_at hl 1 rfl) ?_
                  refine lv_isub hx hb dX7_ifPassed_62 ?_
                  refine lv_istore (lv' := [(4, .int ((nI 0) - (nI 0))), (3, .int (nI 0)), (0, .ref r), (1, .int (nI k)), (2, .int v)]) hx hb dX7_ifPassed_63 hl (by decide) rfl (fun ls hl => ?_)
                  refine lv_aload_n hx hb dX7_ifPassed_65 rfl (lv_at hl 2 rfl) ?_
                  refine xc_v (xr_V (As := []) (rest := []) (κ := 20) ⟨hx, hb, hml, hown, hts⟩ (c_X7_comesBack l O z40 r hτ) (cwV 0 hts gX7_ifPassed_X7_comesBack rfl rfl rfl (by decide +kernel) ⟨Nat.le_of_ble_eq_true rfl, Nat.le_of_ble_eq_true rfl⟩) hK hst hnw hS hW hτ (by decide) rfl rfl rfl hl.1 rfl (Nat.le_of_ble_eq_true rfl) dX7_ifPassed_66 ⟨Nat.zero_le _, Nat.zero_le _⟩) hS (fun M_21 H locs hq_22 hW hS => ?_)
                  have hcb := hq_22
                  have hsame : ∀ x, x ≠ r + 2 → x ≠ r + 6 → M_21 x = M x := fun x h2 h6 => by
                      by_cases h1 : x = r + 1
                      · subst h1
                        funext j
                        rw [hcb.1 j]
                        by_cases hj : j < 326
                        · rw [if_pos hj, hE40.2 _ (by omega) (by omega), hkp.1 j, if_pos hj]
                        · rw [if_neg hj, hE40.1 j (by omega), hkp.2 _ (by omega)]
                      · rw [hcb.2 x h1, hE40.2 x h1 h6, hkp.2 x h2]
                  refine lv_iload hx hb dX7_ifPassed_69 (lv_at hl 0 rfl) ?_
                  exact W.iret (v := ((nI 0) - (nI 0))) hx hb hr (fun t ht hWm => ⟨⟨((nI 0) - (nI 0)), M_21, rfl, ⟨(by unfold xa_ifp; rw [if_neg hk1, if_pos hk2]; exact ((if_neg hj1).trans (if_pos hj2)).symm.trans rfl |> fun q => by first | exact q | (rw [← q]; rfl)), hsame⟩, xw_end ht hW⟩, hS.F ht⟩) hS.2.2 dX7_ifPassed_71
                · exact absurd (nI_le (Nat.le_refl _) (by omega)) c_17
              · obtain ⟨hW, hS, hl, hE40⟩ := hI
                refine lv_iload hx hb dX7_ifPassed_40 (lv_at hl 0 rfl) ?_
                refine lv_iload_n hx hb dX7_ifPassed_42 rfl (lv_at hl 3 rfl) ?_
                refine lv_icmp_ge (tgt := 56) hx hb dX7_ifPassed_43 (by decide) (fun c_24 => ?_) (fun c_24 => ?_)
                · exact absurd c_24 (nI_ge hk40 (by omega))
                · refine lv_aload_n hx hb dX7_ifPassed_46 rfl (lv_at hl 2 rfl) ?_
                  refine xc_v (xr_V (As := []) (rest := []) (κ := 20) ⟨hx, hb, hml, hown, hts⟩ (c_X7_ticks l O z40 r hτ ((hE40.1 4 (by decide)).trans hp1)) (cwV 0 hts gX7_ifPassed_X7_ticks rfl rfl rfl (by decide +kernel) ⟨Nat.le_of_ble_eq_true rfl, Nat.le_of_ble_eq_true rfl⟩) hK hst hnw hS hW hτ (by decide) rfl rfl rfl hl.1 rfl (Nat.le_of_ble_eq_true rfl) dX7_ifPassed_47 ⟨Nat.zero_le _, Nat.zero_le _⟩) hS (fun M_25 H locs hq_26 hW hS => ?_)
                  have hq_t := hq_26
                  refine lv_iinc (v := (nI (k40 + 1))) (lv' := [(4, .int (nI (k40 + 1))), (3, .int (nI 0)), (0, .ref r), (1, .int (nI k)), (2, .int v)]) hx hb dX7_ifPassed_50 hl (k := 0) rfl ((nI_1 k40)) (by decide) rfl (fun ls hl => ?_)
                  refine lv_goto (tgt := 40) hx hb dX7_ifPassed_53 (by decide) ?_
                  exact ih40 M_25 _ _ _ ⟨hW, hS, lv_sub hl [0, 1, 2, 3, 4] rfl, (xr_tr hE40 hq_t)⟩
            · exact absurd c_10 (by decide)
          · rw [if_neg hj2]
            refine lv_if_ne (tgt := 27) hx hb dX7_ifPassed_21 (by decide) (fun c_28 => ?_) (fun c_28 => ?_)
            · exact absurd c_28 (by decide)
            · refine lv_bipush (v := (-2)) hx hb dX7_ifPassed_24 (by decide) ?_
              exact W.iret (v := (-2)) hx hb hr (fun t ht hWm => ⟨⟨(-2), M, rfl, ⟨(by unfold xa_ifp; rw [if_neg hk1, if_pos hk2]; exact ((if_neg hj1).trans (if_neg hj2)).symm), fun _ _ _ => rfl⟩, xw_end ht hW⟩, hS.F ht⟩) hS.2.2 dX7_ifPassed_26
    · rw [if_neg hk2]
      refine lv_if_eq (tgt := 24) hx hb dX7_ifPassed_9 (by decide) (fun c_29 => ?_) (fun c_29 => ?_)
      · refine lv_bipush (v := (-2)) hx hb dX7_ifPassed_24 (by decide) ?_
        exact W.iret (v := (-2)) hx hb hr (fun t ht hWm => ⟨⟨(-2), M, rfl, ⟨(by unfold xa_ifp; rw [if_neg hk1, if_neg hk2]), fun _ _ _ => rfl⟩, xw_end ht hW⟩, hS.F ht⟩) hS.2.2 dX7_ifPassed_26
      · exact absurd c_29 (by decide)
