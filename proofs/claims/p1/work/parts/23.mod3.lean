set_option maxHeartbeats 4000000 in
set_option maxRecDepth 100000 in
/-- HalfTicketsModel.bestClerk, new -/
theorem cm_bestClerk (l : Launch) {G : va_G} {g : Nat → ClassId} {t0 τ : Nat → Nat} {A : Nat → Prop} (O : xk_O τ A) (M : xm_T) (r : Nat) (hτ : τ r = 20) (hF : xr_F M r) : Met l yX7_bestClerk wsX7_bestClerk ({ frames := 6, cells := 0, slots := 0, locals := 190 }) (va_Pc [.ref r] (xS_t G g t0 τ A M)) (va_Qi (fun b M' => b = -6) (fun M' t => xw_D G g τ M' t.heap) A) 0 0 A := by
  refine Met.ofW (cc := cX7_bestClerk) (maxL := 5) (ret := (some .int)) (by decide) rfl ?_
  intro p e s m args below meth c s₁ B hml hv
  obtain ⟨rfl, hW, hK, hst, hnw⟩ := hv
  have hx := B.exec
  have hb := B.bytes
  have hr := B.returns
  have hts := atoms_spec (ws := wsX7_bestClerk) B.pre
  have hown : s.vm.findClass RX7 = some m.cls := findClass_of_methodNamed B.named
  have hlocks := B.notSynchronized
  have hS : va_S A s.heap s.heap [] := va_S.rf
  have inX7 : ∀ w ∈ u_ws RX7 TX7 12, w ∈ wsX7_bestClerk := by decide +kernel
  have hl := lv_entry ([.ref r]) (n := 5) (Nat.le_of_ble_eq_true rfl)
  rw [lg_entry_eq]
  generalize (lg_sl ([.ref r]) ++ List.replicate (5 - (lg_sl ([.ref r])).length) Slot.unset).toArray = ls at hl ⊢
  have hl : lv_has ls 5 [(0, .ref r)] := hl
  refine lv_bipush (v := (-6)) hx hb dX7_bestClerk_0 (by decide) ?_
  refine lv_istore_n (lv' := [(1, .int (-6)), (0, .ref r)]) hx hb dX7_bestClerk_2 rfl hl (by decide) rfl (fun ls hl => ?_)
  refine lv_aload_n hx hb dX7_bestClerk_3 rfl (lv_at hl 1 rfl) ?_
  refine lv_bipush (v := (nI 50)) hx hb dX7_bestClerk_4 (by decide) ?_
  refine lv_iconst (v := (nI 0)) hx hb dX7_bestClerk_6 (by decide) ?_
  refine xc_i (xr_V (As := [.int (nI 50), .int (nI 0)]) (rest := []) (κ := 20) ⟨hx, hb, hml, hown, hts⟩ (cm_ifPassed l O M r hτ (xr_p hF) (fun k hk => (hF.1 _ (by omega)).trans (xm_0 (by omega))) (nI 50) (nI 0)) (cwV 2 hts gX7_bestClerk_X7_ifPassed rfl rfl rfl (by decide +kernel) ⟨Nat.le_of_ble_eq_true rfl, Nat.le_of_ble_eq_true rfl⟩) hK hst hnw hS hW hτ (by decide) rfl rfl rfl hl.1 rfl (Nat.le_of_ble_eq_true rfl) dX7_bestClerk_7 ⟨Nat.zero_le _, Nat.zero_le _⟩) hS (fun r_3 M_1 H locs hq_2 hW hS => ?_)
  obtain ⟨hz, hM1⟩ := hq_2
  replace hz := hz.trans (show xa_ifp (nI 50) (nI 0) = nI 0 from by decide)
  subst hz
  have hA1 : ∀ j, j < 326 → M_1 (r + 1) j = xm_al j := fun j hj => by rw [hM1 _ (by omega) (by omega)]; exact hF.1 j hj
  refine lv_istore_n (lv' := [(2, .int (nI 0)), (1, .int (-6)), (0, .ref r)]) hx hb dX7_bestClerk_10 rfl hl (by decide) rfl (fun ls hl => ?_)
  refine lv_iconst (v := (nI 0)) hx hb dX7_bestClerk_11 (by decide) ?_
  refine lv_istore_n (lv' := [(3, .int (nI 0)), (2, .int (nI 0)), (1, .int (-6)), (0, .ref r)]) hx hb dX7_bestClerk_12 rfl hl (by decide) rfl (fun ls hl => ?_)
  refine xl_up (σ := xm_T) 6 (fun kk zz H locs ls => xw_D G g τ zz H ∧ va_S A s.heap H locs ∧ lv_has ls 5 [(3, .int (nI kk)), (2, .int (nI 0)), (1, .int (-6)), (0, .ref r)] ∧ ∀ j, j < 326 → zz (r + 1) j = xm_al j) (fun z13 H locs ls hI => ?_) (fun k13 z13 H locs ls hk13 hI ih13 => ?_) (k0 := 0) (z0 := M_1) (Nat.zero_le _) ⟨hW, hS, lv_sub hl [0, 1, 2, 3] rfl, hA1⟩
  · obtain ⟨hW, hS, hl, hE13⟩ := hI
    refine lv_iload_n hx hb dX7_bestClerk_13 rfl (lv_at hl 0 rfl) ?_
    refine lv_bipush (v := (nI 6)) hx hb dX7_bestClerk_14 (by decide) ?_
    refine lv_icmp_ge (tgt := 98) hx hb dX7_bestClerk_16 (by decide) (fun c_4 => ?_) (fun c_4 => ?_)
    · refine lv_iload_n hx hb dX7_bestClerk_98 rfl (lv_at hl 2 rfl) ?_
      exact W.iret (v := (-6)) hx hb hr (fun t ht hWm => ⟨⟨(-6), z13, rfl, rfl, xw_end ht hW⟩, hS.F ht⟩) hS.2.2 dX7_bestClerk_99
    · exact absurd (nI_le (Nat.le_refl _) (by decide)) c_4
  · obtain ⟨hW, hS, hl, hE13⟩ := hI
    refine lv_iload_n hx hb dX7_bestClerk_13 rfl (lv_at hl 0 rfl) ?_
    refine lv_bipush (v := (nI 6)) hx hb dX7_bestClerk_14 (by decide) ?_
    refine lv_icmp_ge (tgt := 98) hx hb dX7_bestClerk_16 (by decide) (fun c_5 => ?_) (fun c_5 => ?_)
    · exact absurd c_5 (nI_ge hk13 (by decide))
    · refine lv_aload_n hx hb dX7_bestClerk_19 rfl (lv_at hl 3 rfl) ?_
      refine xg_get (κ := 20) (ci := 7) (C := RX7) (T := TX7) (N := 12) hx hb hts inX7 hown hK hW hτ (by decide) rfl rfl 0 (by decide) (hts (.fieldLink RX7 7 "HalfTicketsModel" "all" "[I") (List.mem_of_getElem? (i := 1) (by decide +kernel))) (fun _ h9 => h9) rfl dX7_bestClerk_20 ?_
      refine lv_bipush (v := (nI 14)) hx hb dX7_bestClerk_23 (by decide) ?_
      refine lv_iload_n hx hb dX7_bestClerk_25 rfl (lv_at hl 0 rfl) ?_
      refine lv_iadd hx hb dX7_bestClerk_26 ?_
      refine xg_iald (κ := 426) (n := 326) hx hb hK hW (O.n1 hτ) (by decide) rfl (14 + k13) (nI_add 14 k13) (by omega) (by decide) dX7_bestClerk_27 ?_
      refine lv_iconst (v := (nI 3)) hx hb dX7_bestClerk_28 (by decide) ?_
      refine lv_icmp_ge (tgt := 92) hx hb dX7_bestClerk_29 (by decide) (fun c_6 => ?_) (fun c_6 => ?_)
      · exact absurd c_6 (by rw [hE13 _ (by omega), xm_1 (by omega)]; decide)
      · refine lv_aload_n hx hb dX7_bestClerk_32 rfl (lv_at hl 3 rfl) ?_
        refine xg_get (κ := 20) (ci := 7) (C := RX7) (T := TX7) (N := 12) hx hb hts inX7 hown hK hW hτ (by decide) rfl rfl 0 (by decide) (hts (.fieldLink RX7 7 "HalfTicketsModel" "all" "[I") (List.mem_of_getElem? (i := 1) (by decide +kernel))) (fun _ h9 => h9) rfl dX7_bestClerk_33 ?_
        refine lv_bipush (v := (nI 14)) hx hb dX7_bestClerk_36 (by decide) ?_
        refine lv_iload_n hx hb dX7_bestClerk_38 rfl (lv_at hl 0 rfl) ?_
        refine lv_iadd hx hb dX7_bestClerk_39 ?_
        refine lv_dup2_11 hx hb dX7_bestClerk_40 rfl rfl ?_
        refine xg_iald (κ := 426) (n := 326) hx hb hK hW (O.n1 hτ) (by decide) rfl (14 + k13) (nI_add 14 k13) (by omega) (by decide) dX7_bestClerk_41 ?_
        refine lv_iconst (v := (nI 1)) hx hb dX7_bestClerk_42 (by decide) ?_
        refine lv_iadd hx hb dX7_bestClerk_43 ?_
        refine xg_iast (κ := 426) (n := 326) hx hb hK O hW hS (O.n1 hτ) (by decide) (fun _ => rfl) (fun _ => trivial) (14 + k13) (nI_add 14 k13) (by omega) (by decide) dX7_bestClerk_44 (fun H locs hW hS => ?_)
        obtain ⟨M_7, eM_7⟩ : ∃ M9, M9 = xu_p z13 (r + 1) (14 + k13) ((z13 (r + 1) (14 + k13)) + (nI 1)) := ⟨_, rfl⟩
        rw [← eM_7] at hW
        refine lv_aload_n hx hb dX7_bestClerk_45 rfl (lv_at hl 3 rfl) ?_
        refine lv_bipush (v := (nI 50)) hx hb dX7_bestClerk_46 (by decide) ?_
        refine lv_iconst (v := (nI 0)) hx hb dX7_bestClerk_48 (by decide) ?_
        refine xc_i (xr_V (As := [.int (nI 50), .int (nI 0)]) (rest := []) (κ := 20) ⟨hx, hb, hml, hown, hts⟩ (cm_ifPassed l O M_7 r hτ (by rw [eM_7, xu_n _ (Or.inr (by omega)), hE13 4 (by decide)]; decide) (fun k hk => by rw [eM_7, xu_n _ (Or.inr (by omega)), hE13 _ (by omega)]; exact xm_0 (by omega)) (nI 50) (nI 0)) (cwV 2 hts gX7_bestClerk_X7_ifPassed rfl rfl rfl (by decide +kernel) ⟨Nat.le_of_ble_eq_true rfl, Nat.le_of_ble_eq_true rfl⟩) hK hst hnw hS hW hτ (by decide) rfl rfl rfl hl.1 rfl (Nat.le_of_ble_eq_true rfl) dX7_bestClerk_49 ⟨Nat.zero_le _, Nat.zero_le _⟩) hS (fun r_10 M_8 H locs hq_9 hW hS => ?_)
        obtain ⟨hz, hM2⟩ := hq_9
        replace hz := hz.trans (show xa_ifp (nI 50) (nI 0) = nI 0 from by decide)
        subst hz
        refine lv_istore (lv' := [(4, .int (nI 0)), (3, .int (nI k13)), (2, .int (nI 0)), (1, .int (-6)), (0, .ref r)]) hx hb dX7_bestClerk_52 hl (by decide) rfl (fun ls hl => ?_)
        refine lv_aload_n hx hb dX7_bestClerk_54 rfl (lv_at hl 4 rfl) ?_
        refine xg_get (κ := 20) (ci := 7) (C := RX7) (T := TX7) (N := 12) hx hb hts inX7 hown hK hW hτ (by decide) rfl rfl 0 (by decide) (hts (.fieldLink RX7 7 "HalfTicketsModel" "all" "[I") (List.mem_of_getElem? (i := 1) (by decide +kernel))) (fun _ h9 => h9) rfl dX7_bestClerk_55 ?_
        refine lv_bipush (v := (nI 14)) hx hb dX7_bestClerk_58 (by decide) ?_
        refine lv_iload_n hx hb dX7_bestClerk_60 rfl (lv_at hl 1 rfl) ?_
        refine lv_iadd hx hb dX7_bestClerk_61 ?_
        refine lv_dup2_11 hx hb dX7_bestClerk_62 rfl rfl ?_
        refine xg_iald (κ := 426) (n := 326) hx hb hK hW (O.n1 hτ) (by decide) rfl (14 + k13) (nI_add 14 k13) (by omega) (by decide) dX7_bestClerk_63 ?_
        refine lv_iconst (v := (nI 1)) hx hb dX7_bestClerk_64 (by decide) ?_
        refine lv_isub hx hb dX7_bestClerk_65 ?_
        refine xg_iast (κ := 426) (n := 326) hx hb hK O hW hS (O.n1 hτ) (by decide) (fun _ => rfl) (fun _ => trivial) (14 + k13) (nI_add 14 k13) (by omega) (by decide) dX7_bestClerk_66 (fun H locs hW hS => ?_)
        obtain ⟨M_11, eM_11⟩ : ∃ M9, M9 = xu_p M_8 (r + 1) (14 + k13) ((M_8 (r + 1) (14 + k13)) - (nI 1)) := ⟨_, rfl⟩
        rw [← eM_11] at hW
        refine lv_iload hx hb dX7_bestClerk_67 (lv_at hl 0 rfl) ?_
        refine lv_iload_n hx hb dX7_bestClerk_69 rfl (lv_at hl 2 rfl) ?_
        refine lv_icmp_le (tgt := 77) hx hb dX7_bestClerk_70 (by decide) (fun c_12 => ?_) (fun c_12 => ?_)
        · refine lv_iload_n hx hb dX7_bestClerk_77 rfl (lv_at hl 3 rfl) ?_
          refine lv_istore_n (lv' := [(1, .int (-6)), (4, .int (nI 0)), (3, .int (nI k13)), (2, .int (nI 0)), (0, .ref r)]) hx hb dX7_bestClerk_78 rfl hl (by decide) rfl (fun ls hl => ?_)
          refine lv_iload hx hb dX7_bestClerk_79 (lv_at hl 1 rfl) ?_
          refine lv_iload_n hx hb dX7_bestClerk_81 rfl (lv_at hl 3 rfl) ?_
          refine lv_icmp_le (tgt := 90) hx hb dX7_bestClerk_82 (by decide) (fun c_13 => ?_) (fun c_13 => ?_)
          · refine lv_iload_n hx hb dX7_bestClerk_90 rfl (lv_at hl 3 rfl) ?_
            refine lv_istore_n (lv' := [(2, .int (nI 0)), (1, .int (-6)), (4, .int (nI 0)), (3, .int (nI k13)), (0, .ref r)]) hx hb dX7_bestClerk_91 rfl hl (by decide) rfl (fun ls hl => ?_)
            refine lv_iinc (v := (nI (k13 + 1))) (lv' := [(3, .int (nI (k13 + 1))), (2, .int (nI 0)), (1, .int (-6)), (4, .int (nI 0)), (0, .ref r)]) hx hb dX7_bestClerk_92 hl (k := 3) rfl ((nI_1 k13)) (by decide) rfl (fun ls hl => ?_)
            refine lv_goto (tgt := 13) hx hb dX7_bestClerk_95 (by decide) ?_
            exact ih13 M_11 _ _ _ ⟨hW, hS, lv_sub hl [0, 1, 2, 4] rfl, (fun j hj => by
                  rw [eM_11]
                  by_cases hjk : j = 14 + k13
                  · subst hjk
                    rw [xu_s, hM2 (r + 1) (by omega) (by omega), eM_7, xu_s, hE13 _ hj, xm_1 (by omega)]
                    decide
                  · rw [xu_n _ (Or.inr hjk), hM2 (r + 1) (by omega) (by omega), eM_7, xu_n _ (Or.inr hjk)]
                    exact hE13 j hj)⟩
          · exact absurd (by decide) c_13
        · exact absurd (by decide) c_12

set_option maxHeartbeats 4000000 in
set_option maxRecDepth 100000 in
/-- HalfTicketsModel.longest, new -/
theorem cm_longest (l : Launch) {G : va_G} {g : Nat → ClassId} {t0 τ : Nat → Nat} {A : Nat → Prop} (O : xk_O τ A) (M : xm_T) (r : Nat) (hτ : τ r = 20) (hF : xr_F M r) : Met l yX7_longest wsX7_longest ({ frames := 5, cells := 0, slots := 0, locals := 160 }) (va_Pc [.ref r] (xS_t G g t0 τ A M)) (va_Qi (fun b M' => b = -6) (fun M' t => xw_D G g τ M' t.heap) A) 0 0 A := by
  refine Met.ofW (cc := cX7_longest) (maxL := 5) (ret := (some .int)) (by decide) rfl ?_
  intro p e s m args below meth c s₁ B hml hv
  obtain ⟨rfl, hW, hK, hst, hnw⟩ := hv
  have hx := B.exec
  have hb := B.bytes
  have hr := B.returns
  have hts := atoms_spec (ws := wsX7_longest) B.pre
  have hown : s.vm.findClass RX7 = some m.cls := findClass_of_methodNamed B.named
  have hlocks := B.notSynchronized
  have hS : va_S A s.heap s.heap [] := va_S.rf
  have hl := lv_entry ([.ref r]) (n := 5) (Nat.le_of_ble_eq_true rfl)
  rw [lg_entry_eq]
  generalize (lg_sl ([.ref r]) ++ List.replicate (5 - (lg_sl ([.ref r])).length) Slot.unset).toArray = ls at hl ⊢
  have hl : lv_has ls 5 [(0, .ref r)] := hl
  refine lv_bipush (v := (-6)) hx hb dX7_longest_0 (by decide) ?_
  refine lv_istore_n (lv' := [(1, .int (-6)), (0, .ref r)]) hx hb dX7_longest_2 rfl hl (by decide) rfl (fun ls hl => ?_)
  refine lv_iconst (v := (nI 0)) hx hb dX7_longest_3 (by decide) ?_
  refine lv_istore_n (lv' := [(2, .int (nI 0)), (1, .int (-6)), (0, .ref r)]) hx hb dX7_longest_4 rfl hl (by decide) rfl (fun ls hl => ?_)
  refine lv_iconst (v := (nI 0)) hx hb dX7_longest_5 (by decide) ?_
  refine lv_istore_n (lv' := [(3, .int (nI 0)), (2, .int (nI 0)), (1, .int (-6)), (0, .ref r)]) hx hb dX7_longest_6 rfl hl (by decide) rfl (fun ls hl => ?_)
  refine xl_up (σ := Unit) 6 (fun kk zz H locs ls => xw_D G g τ M H ∧ va_S A s.heap H locs ∧ lv_has ls 5 [(3, .int (nI kk)), (2, .int (nI 0)), (1, .int (-6)), (0, .ref r)] ∧ True) (fun z7 H locs ls hI => ?_) (fun k7 z7 H locs ls hk7 hI ih7 => ?_) (k0 := 0) (z0 := ()) (Nat.zero_le _) ⟨hW, hS, lv_sub hl [0, 1, 2, 3] rfl, trivial⟩
  · obtain ⟨hW, hS, hl, hE7⟩ := hI
    refine lv_iload_n hx hb dX7_longest_7 rfl (lv_at hl 0 rfl) ?_
    refine lv_bipush (v := (nI 6)) hx hb dX7_longest_8 (by decide) ?_
    refine lv_icmp_ge (tgt := 52) hx hb dX7_longest_10 (by decide) (fun c_1 => ?_) (fun c_1 => ?_)
    · refine lv_iload_n hx hb dX7_longest_52 rfl (lv_at hl 2 rfl) ?_
      exact W.iret (v := (-6)) hx hb hr (fun t ht hWm => ⟨⟨(-6), M, rfl, rfl, xw_end ht hW⟩, hS.F ht⟩) hS.2.2 dX7_longest_53
    · exact absurd (nI_le (Nat.le_refl _) (by decide)) c_1
  · obtain ⟨hW, hS, hl, hE7⟩ := hI
    refine lv_iload_n hx hb dX7_longest_7 rfl (lv_at hl 0 rfl) ?_
    refine lv_bipush (v := (nI 6)) hx hb dX7_longest_8 (by decide) ?_
    refine lv_icmp_ge (tgt := 52) hx hb dX7_longest_10 (by decide) (fun c_2 => ?_) (fun c_2 => ?_)
    · exact absurd c_2 (nI_ge hk7 (by decide))
    · refine lv_aload_n hx hb dX7_longest_13 rfl (lv_at hl 3 rfl) ?_
      refine lv_iconst (v := (nI 0)) hx hb dX7_longest_14 (by decide) ?_
      refine lv_iload_n hx hb dX7_longest_15 rfl (lv_at hl 0 rfl) ?_
      refine xc_i (xr_V (As := [.int (nI 0), .int (nI k7)]) (rest := []) (κ := 20) ⟨hx, hb, hml, hown, hts⟩ (c_X7_manyAt l O M r hτ (xr_p hF) (nI 0) (nI k7)) (cwV 2 hts gX7_longest_X7_manyAt rfl rfl rfl (by decide +kernel) ⟨Nat.le_of_ble_eq_true rfl, Nat.le_of_ble_eq_true rfl⟩) hK hst hnw hS hW hτ (by decide) rfl rfl rfl hl.1 rfl (Nat.le_of_ble_eq_true rfl) dX7_longest_16 ⟨Nat.zero_le _, Nat.zero_le _⟩) hS (fun r_5 M_3 H locs hq_4 hW hS => ?_)
      obtain ⟨hq_4a, hq_4b⟩ := hq_4
      rw [hq_4b] at hW
      rw [hq_4a]
      refine lv_istore (lv' := [(4, .int (nI 0)), (3, .int (nI k7)), (2, .int (nI 0)), (1, .int (-6)), (0, .ref r)]) hx hb dX7_longest_19 hl (by decide) rfl (fun ls hl => ?_)
      refine lv_iload hx hb dX7_longest_21 (lv_at hl 0 rfl) ?_
      refine lv_iload_n hx hb dX7_longest_23 rfl (lv_at hl 2 rfl) ?_
      refine lv_icmp_le (tgt := 31) hx hb dX7_longest_24 (by decide) (fun c_6 => ?_) (fun c_6 => ?_)
      · refine lv_iload_n hx hb dX7_longest_31 rfl (lv_at hl 3 rfl) ?_
        refine lv_istore_n (lv' := [(1, .int (-6)), (4, .int (nI 0)), (3, .int (nI k7)), (2, .int (nI 0)), (0, .ref r)]) hx hb dX7_longest_32 rfl hl (by decide) rfl (fun ls hl => ?_)
        refine lv_iload hx hb dX7_longest_33 (lv_at hl 1 rfl) ?_
        refine lv_iload_n hx hb dX7_longest_35 rfl (lv_at hl 3 rfl) ?_
        refine lv_icmp_le (tgt := 44) hx hb dX7_longest_36 (by decide) (fun c_7 => ?_) (fun c_7 => ?_)
        · refine lv_iload_n hx hb dX7_longest_44 rfl (lv_at hl 3 rfl) ?_
          refine lv_istore_n (lv' := [(2, .int (nI 0)), (1, .int (-6)), (4, .int (nI 0)), (3, .int (nI k7)), (0, .ref r)]) hx hb dX7_longest_45 rfl hl (by decide) rfl (fun ls hl => ?_)
          refine lv_iinc (v := (nI (k7 + 1))) (lv' := [(3, .int (nI (k7 + 1))), (2, .int (nI 0)), (1, .int (-6)), (4, .int (nI 0)), (0, .ref r)]) hx hb dX7_longest_46 hl (k := 3) rfl ((nI_1 k7)) (by decide) rfl (fun ls hl => ?_)
          refine lv_goto (tgt := 7) hx hb dX7_longest_49 (by decide) ?_
          exact ih7 () _ _ _ ⟨hW, hS, lv_sub hl [0, 1, 2, 4] rfl, trivial⟩
        · exact absurd (by decide) c_7
      · exact absurd (by decide) c_6

theorem xc_sh (u a b : UInt64) (h : a.toNat + b.toNat < 64) : (u >>> a) >>> b = u >>> (a + b) := by
  apply UInt64.toNat_inj.mp
  rw [UInt64.toNat_shiftRight, UInt64.toNat_shiftRight, UInt64.toNat_shiftRight, UInt64.toNat_add, Nat.mod_eq_of_lt (show a.toNat < 64 by omega), Nat.mod_eq_of_lt (show b.toNat < 64 by omega), Nat.mod_eq_of_lt (show a.toNat + b.toNat < 2 ^ 64 by omega), Nat.mod_eq_of_lt h, Nat.shiftRight_add]
theorem xc_sh0 (u : UInt64) : (u >>> 56) >>> 8 = 0 := by
  apply UInt64.toNat_inj.mp
  rw [UInt64.toNat_shiftRight, UInt64.toNat_shiftRight, show (56 : UInt64).toNat % 64 = 56 from rfl, show (8 : UInt64).toNat % 64 = 8 from rfl, ← Nat.shiftRight_add, Nat.shiftRight_eq_div_pow]
  exact Nat.div_eq_of_lt (by have := u.toNat_lt; omega)
theorem xc_u0 (u : UInt64) : u >>> 0 = u := by
  apply UInt64.toNat_inj.mp
  rw [UInt64.toNat_shiftRight]
  rfl
def xc_a (k : Nat) : UInt64 := (nI 8 * nI k).toInt64.toUInt64 &&& Int64.toUInt64 63
theorem xc_r_0 (c : Int64) : xc_r c (nI 0) = c := by
  show (c.toUInt64 >>> xc_a 0).toInt64 = c
  rw [show xc_a 0 = 0 from by decide, xc_u0]
  rfl
theorem xc_r_1 (c : Int64) {k : Nat} (hk : k < 7) : ((xc_r c (nI k)).toUInt64 >>> 8).toInt64 = xc_r c (nI (k + 1)) := by
  show ((c.toUInt64 >>> xc_a k) >>> 8).toInt64 = (c.toUInt64 >>> xc_a (k + 1)).toInt64
  rcases (show k = 0 ∨ k = 1 ∨ k = 2 ∨ k = 3 ∨ k = 4 ∨ k = 5 ∨ k = 6 by omega) with rfl | rfl | rfl | rfl | rfl | rfl | rfl <;> (rw [xc_sh _ _ _ (by decide)]; rfl)
theorem xc_r_7 (c : Int64) : ((xc_r c (nI 7)).toUInt64 >>> 8).toInt64 = 0 := by
  show ((c.toUInt64 >>> xc_a 7) >>> 8).toInt64 = 0
  rw [show xc_a 7 = 56 from by decide, xc_sh0]
  rfl
theorem xc_z {x : Int64} (h : lg_cmp x 0 = 0) : x = 0 := by
  unfold lg_cmp at h
  by_cases q1 : (0 : Int64) < x
  · rw [if_pos q1] at h; exact absurd h (by decide)
  · rw [if_neg q1] at h
    by_cases q2 : x = 0
    · exact q2
    · rw [if_neg q2] at h; exact absurd h (by decide)
theorem xc_z' : lg_cmp (0 : Int64) 0 = 0 := by decide
/-- the reference's loop at k with z left: z is the number without its lowest k characters -/
def xc_L (c z : Int64) (k : Nat) : Prop := z = (if k < 8 then xc_r c (nI k) else 0) ∧ xc_n c = xc_go c (8 - k) k
theorem xc_L0 (c : Int64) : xc_L c c 0 := ⟨(xc_r_0 c).symm, rfl⟩
theorem xc_Lz {c z : Int64} {k : Nat} (h : xc_L c z k) (hk : k < 8) : z = xc_r c (nI k) ∧ xc_n c = xc_go c ((7 - k) + 1) k := by
  refine ⟨h.1.trans (if_pos hk), ?_⟩
  rw [show (7 - k) + 1 = 8 - k by omega]
  exact h.2
theorem xc_Lnot {c z : Int64} {k : Nat} (h : xc_L c z k) (hk : k < 8) (hin : xr_in (z &&& 255) 33 126 = nI 0) : xc_n c = if lg_cmp z 0 = 0 then nI k else nI 0 := by
  obtain ⟨hz, hn⟩ := xc_Lz h hk
  rw [hn, xc_go, ← hz]
  by_cases q0 : lg_cmp z 0 = 0
  · rw [if_pos q0, if_pos q0]
  · rw [if_neg q0, if_neg q0]
    unfold xr_in at hin
    by_cases q1 : lg_cmp (z &&& 255) 33 < 0
    · rw [if_pos q1]
    · rw [if_neg q1] at hin ⊢
      by_cases q2 : 0 < lg_cmp (z &&& 255) 126
      · rw [if_neg (Int32.not_le.mpr q2)]
      · rw [if_neg q2] at hin; exact absurd hin (by decide)
theorem xc_Lon {c z : Int64} {k : Nat} (h : xc_L c z k) (hk : k < 8) (hin : ¬ xr_in (z &&& 255) 33 126 = nI 0) : xc_L c (z.toUInt64 >>> 8).toInt64 (k + 1) := by
  obtain ⟨hz, hn⟩ := xc_Lz h hk
  refine ⟨?_, ?_⟩
  · rw [hz]
    by_cases q : k < 7
    · rw [if_pos (by omega)]; exact xc_r_1 c q
    · obtain rfl : k = 7 := by omega
      exact xc_r_7 c
  · rw [hn, xc_go, ← hz, show 8 - (k + 1) = 7 - k by omega]
    unfold xr_in at hin
    by_cases q0 : lg_cmp z 0 = 0
    · rw [xc_z q0] at hin
      exact absurd (by decide) hin
    · rw [if_neg q0]
      by_cases q1 : lg_cmp (z &&& 255) 33 < 0
      · rw [if_pos q1] at hin; exact absurd rfl hin
      · rw [if_neg q1] at hin ⊢
        by_cases q2 : 0 < lg_cmp (z &&& 255) 126
        · rw [if_pos q2] at hin; exact absurd rfl hin
        · rw [if_pos (Int32.not_lt.mp q2)]
theorem xc_Lend {c z : Int64} (h : xc_L c z 8) : xc_n c = if lg_cmp z 0 = 0 then nI 8 else nI 0 := by
  have hz : z = 0 := h.1.trans (if_neg (by decide))
  rw [hz, if_pos xc_z', h.2]
  rfl

set_option maxHeartbeats 4000000 in
set_option maxRecDepth 100000 in
/-- HalfTicketsModel.charactersOf -/
theorem cm_charactersOf (l : Launch) {G : va_G} {g : Nat → ClassId} {t0 τ : Nat → Nat} {A : Nat → Prop} (O : xk_O τ A) (M : xm_T) (c0 : Int64) : Met l yX7_charactersOf wsX7_charactersOf ({ frames := 1, cells := 0, slots := 0, locals := 40 }) (va_Pc [.long c0] (xS_t G g t0 τ A M)) (va_Qi (fun v M' => v = xc_n c0 ∧ M' = M) (fun M' t => xw_D G g τ M' t.heap) A) 0 0 A := by
  refine Met.ofW (cc := cX7_charactersOf) (maxL := 5) (ret := (some .int)) (by decide) rfl ?_
  intro p e s m args below meth c s₁ B hml hv
  obtain ⟨rfl, hW, hK, hst, hnw⟩ := hv
  have hx := B.exec
  have hb := B.bytes
  have hr := B.returns
  have hts := atoms_spec (ws := wsX7_charactersOf) B.pre
  have hown : s.vm.findClass RX7 = some m.cls := findClass_of_methodNamed B.named
  have hlocks := B.notSynchronized
  have hS : va_S A s.heap s.heap [] := va_S.rf
  have hl := lv_entry ([.long c0]) (n := 5) (Nat.le_of_ble_eq_true rfl)
  rw [lg_entry_eq]
  generalize (lg_sl ([.long c0]) ++ List.replicate (5 - (lg_sl ([.long c0])).length) Slot.unset).toArray = ls at hl ⊢
  have hl : lv_has ls 5 [(0, .long c0)] := hl
  refine lv_lload_n hx hb dX7_charactersOf_0 rfl (lv_at hl 0 rfl) ?_
  refine lv_lstore_n (lv' := [(2, .long c0), (0, .long c0)]) hx hb dX7_charactersOf_1 rfl hl (by decide) rfl (fun ls hl => ?_)
  refine lv_iconst (v := (nI 0)) hx hb dX7_charactersOf_2 (by decide) ?_
  refine lv_istore (lv' := [(4, .int (nI 0)), (2, .long c0), (0, .long c0)]) hx hb dX7_charactersOf_3 hl (by decide) rfl (fun ls hl => ?_)
  refine xl_up (σ := Int64) 8 (fun kk zz H locs ls => xw_D G g τ M H ∧ va_S A s.heap H locs ∧ lv_has ls 5 [(4, .int (nI kk)), (2, .long zz), (0, .long c0)] ∧ xc_L c0 zz kk) (fun z5 H locs ls hI => ?_) (fun k5 z5 H locs ls hk5 hI ih5 => ?_) (k0 := 0) (z0 := c0) (Nat.zero_le _) ⟨hW, hS, lv_sub hl [0, 1, 2] rfl, (xc_L0 c0)⟩
  · obtain ⟨hW, hS, hl, hE5⟩ := hI
    refine lv_iload hx hb dX7_charactersOf_5 (lv_at hl 0 rfl) ?_
    refine lv_bipush (v := (nI 8)) hx hb dX7_charactersOf_7 (by decide) ?_
    refine lv_icmp_ge (tgt := 40) hx hb dX7_charactersOf_9 (by decide) (fun c_1 => ?_) (fun c_1 => ?_)
    · refine lv_lload_n hx hb dX7_charactersOf_40 rfl (lv_at hl 1 rfl) ?_
      refine lv_lconst (v := 0) hx hb dX7_charactersOf_41 rfl ?_
      refine W.lcmp hx hb dX7_charactersOf_42 ?_
      refine lv_if_ne (tgt := 51) hx hb dX7_charactersOf_43 (by decide) (fun c_3 => ?_) (fun c_3 => ?_)
      · refine lv_iconst (v := (nI 0)) hx hb dX7_charactersOf_51 (by decide) ?_
        exact W.iret (v := (nI 0)) hx hb hr (fun t ht hWm => ⟨⟨(nI 0), M, rfl, ⟨((xc_Lend hE5).trans (if_neg c_3)).symm, rfl⟩, xw_end ht hW⟩, hS.F ht⟩) hS.2.2 dX7_charactersOf_52
      · refine lv_iload hx hb dX7_charactersOf_46 (lv_at hl 0 rfl) ?_
        refine lv_goto (tgt := 52) hx hb dX7_charactersOf_48 (by decide) ?_
        exact W.iret (v := (nI 8)) hx hb hr (fun t ht hWm => ⟨⟨(nI 8), M, rfl, ⟨((xc_Lend hE5).trans (if_pos c_3)).symm, rfl⟩, xw_end ht hW⟩, hS.F ht⟩) hS.2.2 dX7_charactersOf_52
    · exact absurd (nI_le (Nat.le_refl _) (by decide)) c_1
  · obtain ⟨hW, hS, hl, hE5⟩ := hI
    refine lv_iload hx hb dX7_charactersOf_5 (lv_at hl 0 rfl) ?_
    refine lv_bipush (v := (nI 8)) hx hb dX7_charactersOf_7 (by decide) ?_
    refine lv_icmp_ge (tgt := 40) hx hb dX7_charactersOf_9 (by decide) (fun c_4 => ?_) (fun c_4 => ?_)
    · exact absurd c_4 (nI_ge hk5 (by decide))
    · refine lv_lload_n hx hb dX7_charactersOf_12 rfl (lv_at hl 1 rfl) ?_
      refine lv_ldc2 (v := 255) hx hb hown (hts (.constantLong RX7 154 (255)) (List.mem_of_getElem? (i := 1) (by decide +kernel))) dX7_charactersOf_13 ?_
      refine lv_land hx hb dX7_charactersOf_16 ?_
      refine lv_ldc2 (v := 33) hx hb hown (hts (.constantLong RX7 156 (33)) (List.mem_of_getElem? (i := 2) (by decide +kernel))) dX7_charactersOf_17 ?_
      refine lv_ldc2 (v := 126) hx hb hown (hts (.constantLong RX7 158 (126)) (List.mem_of_getElem? (i := 3) (by decide +kernel))) dX7_charactersOf_20 ?_
      refine xc_i (xr_S (As := [.long (z5 &&& (255 : Int64)), .long (33 : Int64), .long (126 : Int64)]) (rest := []) ⟨hx, hb, hml, hown, hts⟩ (c_X7_in l O M (z5 &&& (255 : Int64)) (33 : Int64) (126 : Int64)) (va_cwS 3 hts gX7_charactersOf_X7_in rfl rfl rfl (by decide +kernel) ⟨Nat.le_of_ble_eq_true rfl, Nat.le_of_ble_eq_true rfl⟩) hK hst hnw hS hW rfl hl.1 rfl (Nat.le_of_ble_eq_true rfl) dX7_charactersOf_23 ⟨Nat.zero_le _, Nat.zero_le _⟩) hS (fun r_7 M_5 H locs hq_6 hW hS => ?_)
      obtain ⟨hq_6a, hq_6b⟩ := hq_6
      rw [hq_6b] at hW
      rw [hq_6a]
      refine lv_if_eq (tgt := 40) hx hb dX7_charactersOf_26 (by decide) (fun c_8 => ?_) (fun c_8 => ?_)
      · refine lv_lload_n hx hb dX7_charactersOf_40 rfl (lv_at hl 1 rfl) ?_
        refine lv_lconst (v := 0) hx hb dX7_charactersOf_41 rfl ?_
        refine W.lcmp hx hb dX7_charactersOf_42 ?_
        refine lv_if_ne (tgt := 51) hx hb dX7_charactersOf_43 (by decide) (fun c_10 => ?_) (fun c_10 => ?_)
        · refine lv_iconst (v := (nI 0)) hx hb dX7_charactersOf_51 (by decide) ?_
          exact W.iret (v := (nI 0)) hx hb hr (fun t ht hWm => ⟨⟨(nI 0), M, rfl, ⟨((xc_Lnot hE5 hk5 c_8).trans (if_neg c_10)).symm, rfl⟩, xw_end ht hW⟩, hS.F ht⟩) hS.2.2 dX7_charactersOf_52
        · refine lv_iload hx hb dX7_charactersOf_46 (lv_at hl 0 rfl) ?_
          refine lv_goto (tgt := 52) hx hb dX7_charactersOf_48 (by decide) ?_
          exact W.iret (v := (nI k5)) hx hb hr (fun t ht hWm => ⟨⟨(nI k5), M, rfl, ⟨((xc_Lnot hE5 hk5 c_8).trans (if_pos c_10)).symm, rfl⟩, xw_end ht hW⟩, hS.F ht⟩) hS.2.2 dX7_charactersOf_52
      · refine lv_lload_n hx hb dX7_charactersOf_29 rfl (lv_at hl 1 rfl) ?_
        refine lv_bipush (v := (nI 8)) hx hb dX7_charactersOf_30 (by decide) ?_
        refine lv_lushr (v := (z5.toUInt64 >>> ((nI 8).toInt64.toUInt64 &&& Int64.toUInt64 63)).toInt64) hx hb dX7_charactersOf_32 rfl ?_
        refine lv_lstore_n (lv' := [(2, .long (z5.toUInt64 >>> ((nI 8).toInt64.toUInt64 &&& Int64.toUInt64 63)).toInt64), (4, .int (nI k5)), (0, .long c0)]) hx hb dX7_charactersOf_33 rfl hl (by decide) rfl (fun ls hl => ?_)
        refine lv_iinc (v := (nI (k5 + 1))) (lv' := [(4, .int (nI (k5 + 1))), (2, .long (z5.toUInt64 >>> ((nI 8).toInt64.toUInt64 &&& Int64.toUInt64 63)).toInt64), (0, .long c0)]) hx hb dX7_charactersOf_34 hl (k := 1) rfl ((nI_1 k5)) (by decide) rfl (fun ls hl => ?_)
        refine lv_goto (tgt := 5) hx hb dX7_charactersOf_37 (by decide) ?_
        exact ih5 (z5.toUInt64 >>> ((nI 8).toInt64.toUInt64 &&& Int64.toUInt64 63)).toInt64 _ _ _ ⟨hW, hS, lv_sub hl [0, 1, 2] rfl, (xc_Lon hE5 hk5 c_8)⟩

set_option maxHeartbeats 4000000 in
set_option maxRecDepth 100000 in
/-- HalfTicketsModel.put, new -/
theorem cm_put (l : Launch) {G : va_G} {g : Nat → ClassId} {t0 τ : Nat → Nat} {A : Nat → Prop} (O : xk_O τ A) (M : xm_T) (r : Nat) (hτ : τ r = 20) (hF : xr_F M r) (c0 : Int64) : Met l yX7_put wsX7_put ({ frames := 5, cells := 0, slots := 0, locals := 160 }) (va_Pc [.ref r, .long c0] (xS_t G g t0 τ A M)) (va_Qi (fun b M' => b = xa_put c0) (fun M' t => xw_D G g τ M' t.heap) A) 0 0 A := by
  refine Met.ofW (cc := cX7_put) (maxL := 5) (ret := (some .int)) (by decide) rfl ?_
  intro p e s m args below meth c s₁ B hml hv
  obtain ⟨rfl, hW, hK, hst, hnw⟩ := hv
  have hx := B.exec
  have hb := B.bytes
  have hr := B.returns
  have hts := atoms_spec (ws := wsX7_put) B.pre
  have hown : s.vm.findClass RX7 = some m.cls := findClass_of_methodNamed B.named
  have hlocks := B.notSynchronized
  have hS : va_S A s.heap s.heap [] := va_S.rf
  have inX7 : ∀ w ∈ u_ws RX7 TX7 12, w ∈ wsX7_put := by decide +kernel
  have hl := lv_entry ([.ref r, .long c0]) (n := 5) (Nat.le_of_ble_eq_true rfl)
  rw [lg_entry_eq]
  generalize (lg_sl ([.ref r, .long c0]) ++ List.replicate (5 - (lg_sl ([.ref r, .long c0])).length) Slot.unset).toArray = ls at hl ⊢
  have hl : lv_has ls 5 [(0, .ref r), (1, .long c0)] := hl
  refine lv_lload_n hx hb dX7_put_0 rfl (lv_at hl 1 rfl) ?_
  refine xc_i (xr_S (As := [.long c0]) (rest := []) ⟨hx, hb, hml, hown, hts⟩ (cm_charactersOf l O M c0) (va_cwS 1 hts gX7_put_X7_charactersOf rfl rfl rfl (by decide +kernel) ⟨Nat.le_of_ble_eq_true rfl, Nat.le_of_ble_eq_true rfl⟩) hK hst hnw hS hW rfl hl.1 rfl (Nat.le_of_ble_eq_true rfl) dX7_put_1 ⟨Nat.zero_le _, Nat.zero_le _⟩) hS (fun r_3 M_1 H locs hq_2 hW hS => ?_)
  obtain ⟨hq_2a, hq_2b⟩ := hq_2
  rw [hq_2b] at hW
  rw [hq_2a]
  refine lv_istore_n (lv' := [(3, .int (xc_n c0)), (0, .ref r), (1, .long c0)]) hx hb dX7_put_4 rfl hl (by decide) rfl (fun ls hl => ?_)
  refine lv_iload_n hx hb dX7_put_5 rfl (lv_at hl 0 rfl) ?_
  refine lv_if_ne (tgt := 12) hx hb dX7_put_6 (by decide) (fun c_4 => ?_) (fun c_4 => ?_)
  · obtain ⟨n, hn, hcn⟩ := xc_go_le c0 8 0
    replace hcn : xc_n c0 = nI n := hcn
    have hput : nI n = xa_put c0 := by unfold xa_put; rw [if_neg c_4, hcn]
    rw [hcn] at hl
    refine lv_aload_n hx hb dX7_put_12 rfl (lv_at hl 1 rfl) ?_
    refine xg_get (κ := 20) (ci := 7) (C := RX7) (T := TX7) (N := 12) hx hb hts inX7 hown hK hW hτ (by decide) rfl rfl 8 (by decide) (hts (.fieldLink RX7 135 "HalfTicketsModel" "textLong" "I") (List.mem_of_getElem? (i := 1) (by decide +kernel))) (fun _ h9 => h9) rfl dX7_put_13 ?_
    refine lv_iload_n hx hb dX7_put_16 rfl (lv_at hl 0 rfl) ?_
    refine lv_iadd hx hb dX7_put_17 ?_
    refine lv_bipush (v := (nI 60)) hx hb dX7_put_18 (by decide) ?_
    refine lv_icmp_le (tgt := 26) hx hb dX7_put_20 (by decide) (fun c_5 => ?_) (fun c_5 => ?_)
    · refine lv_iconst (v := (nI 0)) hx hb dX7_put_26 (by decide) ?_
      refine lv_istore (lv' := [(4, .int (nI 0)), (3, .int (nI n)), (0, .ref r), (1, .long c0)]) hx hb dX7_put_27 hl (by decide) rfl (fun ls hl => ?_)
      refine xl_up (σ := xm_T) n (fun kk zz H locs ls => xw_D G g τ zz H ∧ va_S A s.heap H locs ∧ lv_has ls 5 [(4, .int (nI kk)), (3, .int (nI n)), (0, .ref r), (1, .long c0)] ∧ ∀ x, x ≠ r + 7 → zz x = M x) (fun z29 H locs ls hI => ?_) (fun k29 z29 H locs ls hk29 hI ih29 => ?_) (k0 := 0) (z0 := M) (Nat.zero_le _) ⟨hW, hS, lv_sub hl [0, 1, 2, 3] rfl, (fun _ _ => rfl)⟩
      · obtain ⟨hW, hS, hl, hE29⟩ := hI
        refine lv_iload hx hb dX7_put_29 (lv_at hl 0 rfl) ?_
        refine lv_iload_n hx hb dX7_put_31 rfl (lv_at hl 1 rfl) ?_
        refine lv_icmp_ge (tgt := 69) hx hb dX7_put_32 (by decide) (fun c_6 => ?_) (fun c_6 => ?_)
        · refine lv_aload_n hx hb dX7_put_69 rfl (lv_at hl 2 rfl) ?_
          refine lv_dup hx hb dX7_put_70 rfl ?_
          refine xg_get (κ := 20) (ci := 7) (C := RX7) (T := TX7) (N := 12) hx hb hts inX7 hown hK hW hτ (by decide) rfl rfl 8 (by decide) (hts (.fieldLink RX7 135 "HalfTicketsModel" "textLong" "I") (List.mem_of_getElem? (i := 1) (by decide +kernel))) (fun _ h9 => h9) rfl dX7_put_71 ?_
          refine lv_iload_n hx hb dX7_put_74 rfl (lv_at hl 1 rfl) ?_
          refine lv_iadd hx hb dX7_put_75 ?_
          refine xg_put (κ := 20) (ci := 7) (C := RX7) (T := TX7) (N := 12) hx hb hts inX7 tyX7 tyX7_ok nmX7 hown hK O hW hS hτ (by decide) rfl rfl 8 (by decide) (v := ((z29 r 8) + (nI n))) rfl trivial (hts (.fieldLink RX7 135 "HalfTicketsModel" "textLong" "I") (List.mem_of_getElem? (i := 1) (by decide +kernel))) (fun _ h9 => h9) rfl (ty := .int) (by decide +kernel) rfl rfl (Nat.le_of_ble_eq_true rfl) dX7_put_76 (fun H locs hW hS => ?_)
          obtain ⟨M_7, eM_7⟩ : ∃ M9, M9 = xu_p z29 r 8 ((z29 r 8) + (nI n)) := ⟨_, rfl⟩
          rw [← eM_7] at hW
          refine lv_aload_n hx hb dX7_put_79 rfl (lv_at hl 2 rfl) ?_
          refine xg_get (κ := 20) (ci := 7) (C := RX7) (T := TX7) (N := 12) hx hb hts inX7 hown hK hW hτ (by decide) rfl rfl 8 (by decide) (hts (.fieldLink RX7 135 "HalfTicketsModel" "textLong" "I") (List.mem_of_getElem? (i := 1) (by decide +kernel))) (fun _ h9 => h9) rfl dX7_put_80 ?_
          exact W.iret (v := (M_7 r 8)) hx hb hr (fun t ht hWm => ⟨⟨(M_7 r 8), M_7, rfl, (by rw [eM_7, xu_s, hE29 r (by omega), hF.2.2.1, nI_add, Nat.zero_add]; exact hput), xw_end ht hW⟩, hS.F ht⟩) hS.2.2 dX7_put_83
        · exact absurd (nI_le (Nat.le_refl _) (by omega)) c_6
      · obtain ⟨hW, hS, hl, hE29⟩ := hI
        refine lv_iload hx hb dX7_put_29 (lv_at hl 0 rfl) ?_
        refine lv_iload_n hx hb dX7_put_31 rfl (lv_at hl 1 rfl) ?_
        refine lv_icmp_ge (tgt := 69) hx hb dX7_put_32 (by decide) (fun c_8 => ?_) (fun c_8 => ?_)
        · exact absurd c_8 (nI_ge hk29 (by omega))
        · refine lv_aload_n hx hb dX7_put_35 rfl (lv_at hl 2 rfl) ?_
          refine xg_get (κ := 20) (ci := 7) (C := RX7) (T := TX7) (N := 12) hx hb hts inX7 hown hK hW hτ (by decide) rfl rfl 7 (by decide) (hts (.fieldLink RX7 28 "HalfTicketsModel" "text" "[I") (List.mem_of_getElem? (i := 2) (by decide +kernel))) (fun _ h9 => h9) rfl dX7_put_36 ?_
          refine lv_aload_n hx hb dX7_put_39 rfl (lv_at hl 2 rfl) ?_
          refine xg_get (κ := 20) (ci := 7) (C := RX7) (T := TX7) (N := 12) hx hb hts inX7 hown hK hW hτ (by decide) rfl rfl 8 (by decide) (hts (.fieldLink RX7 135 "HalfTicketsModel" "textLong" "I") (List.mem_of_getElem? (i := 1) (by decide +kernel))) (fun _ h9 => h9) rfl dX7_put_40 ?_
          refine lv_iload hx hb dX7_put_43 (lv_at hl 0 rfl) ?_
          refine lv_iadd hx hb dX7_put_45 ?_
          refine lv_lload_n hx hb dX7_put_46 rfl (lv_at hl 3 rfl) ?_
          refine lv_bipush (v := (nI 8)) hx hb dX7_put_47 (by decide) ?_
          refine lv_iload_n hx hb dX7_put_49 rfl (lv_at hl 1 rfl) ?_
          refine lv_iconst (v := (nI 1)) hx hb dX7_put_50 (by decide) ?_
          refine lv_isub hx hb dX7_put_51 ?_
          refine lv_iload hx hb dX7_put_52 (lv_at hl 0 rfl) ?_
          refine lv_isub hx hb dX7_put_54 ?_
          refine lv_imul hx hb dX7_put_55 ?_
          refine lv_lushr (v := (c0.toUInt64 >>> (((nI 8) * (((nI n) - (nI 1)) - (nI k29))).toInt64.toUInt64 &&& Int64.toUInt64 63)).toInt64) hx hb dX7_put_56 rfl ?_
          refine lv_ldc2 (v := 255) hx hb hown (hts (.constantLong RX7 154 (255)) (List.mem_of_getElem? (i := 3) (by decide +kernel))) dX7_put_57 ?_
          refine lv_land hx hb dX7_put_60 ?_
          refine lv_l2i (v := (((c0.toUInt64 >>> (((nI 8) * (((nI n) - (nI 1)) - (nI k29))).toInt64.toUInt64 &&& Int64.toUInt64 63)).toInt64 &&& (255 : Int64))).toInt32) hx hb dX7_put_61 rfl ?_
          refine xg_iast (κ := 160) (n := 60) hx hb hK O hW hS (O.n7 hτ) (by decide) (fun _ => rfl) (fun _ => trivial) k29 (by rw [hE29 r (by omega), hF.2.2.1, nI_add, Nat.zero_add]) (by omega) (by decide) dX7_put_62 (fun H locs hW hS => ?_)
          obtain ⟨M_9, eM_9⟩ : ∃ M9, M9 = xu_p z29 (r + 7) k29 (((c0.toUInt64 >>> (((nI 8) * (((nI n) - (nI 1)) - (nI k29))).toInt64.toUInt64 &&& Int64.toUInt64 63)).toInt64 &&& (255 : Int64))).toInt32 := ⟨_, rfl⟩
          rw [← eM_9] at hW
          refine lv_iinc (v := (nI (k29 + 1))) (lv' := [(4, .int (nI (k29 + 1))), (3, .int (nI n)), (0, .ref r), (1, .long c0)]) hx hb dX7_put_63 hl (k := 0) rfl ((nI_1 k29)) (by decide) rfl (fun ls hl => ?_)
          refine lv_goto (tgt := 29) hx hb dX7_put_66 (by decide) ?_
          exact ih29 M_9 _ _ _ ⟨hW, hS, lv_sub hl [0, 1, 2, 3] rfl, (fun x hx => by rw [eM_9, xu_p, xr_n _ _ hx]; exact hE29 x hx)⟩
    · exact absurd (by rw [hF.2.2.1, nI_add]; exact nI_le (by omega) (by decide)) c_5
  · refine lv_bipush (v := (-2)) hx hb dX7_put_9 (by decide) ?_
    exact W.iret (v := (-2)) hx hb hr (fun t ht hWm => ⟨⟨(-2), M, rfl, (by unfold xa_put; rw [if_pos c_4]), xw_end ht hW⟩, hS.F ht⟩) hS.2.2 dX7_put_11

set_option maxHeartbeats 4000000 in
set_option maxRecDepth 100000 in
/-- HalfTicketsModel.wipe, new -/
theorem cm_wipe (l : Launch) {G : va_G} {g : Nat → ClassId} {t0 τ : Nat → Nat} {A : Nat → Prop} (O : xk_O τ A) (M : xm_T) (r : Nat) (hτ : τ r = 20) (hF : xr_F M r) : Met l yX7_wipe wsX7_wipe ({ frames := 5, cells := 0, slots := 0, locals := 160 }) (va_Pc [.ref r] (xS_t G g t0 τ A M)) (va_Qi (fun b M' => b = nI 0) (fun M' t => xw_D G g τ M' t.heap) A) 0 0 A := by
  refine Met.ofW (cc := cX7_wipe) (maxL := 2) (ret := (some .int)) (by decide) rfl ?_
  intro p e s m args below meth c s₁ B hml hv
  obtain ⟨rfl, hW, hK, hst, hnw⟩ := hv
  have hx := B.exec
  have hb := B.bytes
  have hr := B.returns
  have hts := atoms_spec (ws := wsX7_wipe) B.pre
  have hown : s.vm.findClass RX7 = some m.cls := findClass_of_methodNamed B.named
  have hlocks := B.notSynchronized
  have hS : va_S A s.heap s.heap [] := va_S.rf
  have inX7 : ∀ w ∈ u_ws RX7 TX7 12, w ∈ wsX7_wipe := by decide +kernel
  have hl := lv_entry ([.ref r]) (n := 2) (Nat.le_of_ble_eq_true rfl)
  rw [lg_entry_eq]
  generalize (lg_sl ([.ref r]) ++ List.replicate (2 - (lg_sl ([.ref r])).length) Slot.unset).toArray = ls at hl ⊢
  have hl : lv_has ls 2 [(0, .ref r)] := hl
  refine lv_aload_n hx hb dX7_wipe_0 rfl (lv_at hl 0 rfl) ?_
  refine xg_get (κ := 20) (ci := 7) (C := RX7) (T := TX7) (N := 12) hx hb hts inX7 hown hK hW hτ (by decide) rfl rfl 8 (by decide) (hts (.fieldLink RX7 135 "HalfTicketsModel" "textLong" "I") (List.mem_of_getElem? (i := 1) (by decide +kernel))) (fun _ h9 => h9) rfl dX7_wipe_1 ?_
  refine lv_istore_n (lv' := [(1, .int (M r 8)), (0, .ref r)]) hx hb dX7_wipe_4 rfl hl (by decide) rfl (fun ls hl => ?_)
  refine lv_aload_n hx hb dX7_wipe_5 rfl (lv_at hl 1 rfl) ?_
  refine lv_iconst (v := (nI 0)) hx hb dX7_wipe_6 (by decide) ?_
  refine xg_put (κ := 20) (ci := 7) (C := RX7) (T := TX7) (N := 12) hx hb hts inX7 tyX7 tyX7_ok nmX7 hown hK O hW hS hτ (by decide) rfl rfl 8 (by decide) (v := (nI 0)) rfl trivial (hts (.fieldLink RX7 135 "HalfTicketsModel" "textLong" "I") (List.mem_of_getElem? (i := 1) (by decide +kernel))) (fun _ h9 => h9) rfl (ty := .int) (by decide +kernel) rfl rfl (Nat.le_of_ble_eq_true rfl) dX7_wipe_7 (fun H locs hW hS => ?_)
  obtain ⟨M_1, eM_1⟩ : ∃ M9, M9 = xu_p M r 8 (nI 0) := ⟨_, rfl⟩
  rw [← eM_1] at hW
  refine lv_iload_n hx hb dX7_wipe_10 rfl (lv_at hl 0 rfl) ?_
  exact W.iret (v := (M r 8)) hx hb hr (fun t ht hWm => ⟨⟨(M r 8), M_1, rfl, hF.2.2.1, xw_end ht hW⟩, hS.F ht⟩) hS.2.2 dX7_wipe_11

set_option maxHeartbeats 4000000 in
set_option maxRecDepth 100000 in
/-- HalfTicketsModel.fault, new -/
theorem cm_fault (l : Launch) {G : va_G} {g : Nat → ClassId} {t0 τ : Nat → Nat} {A : Nat → Prop} (O : xk_O τ A) (M : xm_T) (r : Nat) (hτ : τ r = 20) (hF : xr_F M r) : Met l yX7_fault wsX7_fault ({ frames := 5, cells := 0, slots := 0, locals := 160 }) (va_Pc [.ref r] (xS_t G g t0 τ A M)) (va_Qi (fun b M' => b = nI 0) (fun M' t => xw_D G g τ M' t.heap) A) 0 0 A := by
  refine Met.ofW (cc := cX7_fault) (maxL := 4) (ret := (some .int)) (by decide) rfl ?_
  intro p e s m args below meth c s₁ B hml hv
  obtain ⟨rfl, hW, hK, hst, hnw⟩ := hv
  have hx := B.exec
  have hb := B.bytes
  have hr := B.returns
  have hts := atoms_spec (ws := wsX7_fault) B.pre
  have hown : s.vm.findClass RX7 = some m.cls := findClass_of_methodNamed B.named
  have hlocks := B.notSynchronized
  have hS : va_S A s.heap s.heap [] := va_S.rf
  have inX7 : ∀ w ∈ u_ws RX7 TX7 12, w ∈ wsX7_fault := by decide +kernel
  have hl := lv_entry ([.ref r]) (n := 4) (Nat.le_of_ble_eq_true rfl)
  rw [lg_entry_eq]
  generalize (lg_sl ([.ref r]) ++ List.replicate (4 - (lg_sl ([.ref r])).length) Slot.unset).toArray = ls at hl ⊢
  have hl : lv_has ls 4 [(0, .ref r)] := hl
  refine lv_aload_n hx hb dX7_fault_0 rfl (lv_at hl 0 rfl) ?_
  refine lv_iconst (v := (nI 0)) hx hb dX7_fault_1 (by decide) ?_
  refine xg_put (κ := 20) (ci := 7) (C := RX7) (T := TX7) (N := 12) hx hb hts inX7 tyX7 tyX7_ok nmX7 hown hK O hW hS hτ (by decide) rfl rfl 11 (by decide) (v := (nI 0)) rfl trivial (hts (.fieldLink RX7 164 "HalfTicketsModel" "read" "I") (List.mem_of_getElem? (i := 1) (by decide +kernel))) (fun _ h9 => h9) rfl (ty := .int) (by decide +kernel) rfl rfl (Nat.le_of_ble_eq_true rfl) dX7_fault_2 (fun H locs hW hS => ?_)
  obtain ⟨M_1, eM_1⟩ : ∃ M9, M9 = xu_p M r 11 (nI 0) := ⟨_, rfl⟩
  rw [← eM_1] at hW
  refine lv_iconst (v := (nI 0)) hx hb dX7_fault_5 (by decide) ?_
  refine lv_istore_n (lv' := [(1, .int (nI 0)), (0, .ref r)]) hx hb dX7_fault_6 rfl hl (by decide) rfl (fun ls hl => ?_)
  refine lv_iconst (v := (nI 1)) hx hb dX7_fault_7 (by decide) ?_
  refine lv_istore_n (lv' := [(2, .int (nI 1)), (1, .int (nI 0)), (0, .ref r)]) hx hb dX7_fault_8 rfl hl (by decide) rfl (fun ls hl => ?_)
  refine lv_iload_n hx hb dX7_fault_9 rfl (lv_at hl 0 rfl) ?_
  refine lv_if_eq (tgt := 76) hx hb dX7_fault_10 (by decide) (fun c_2 => ?_) (fun c_2 => ?_)
  · exact absurd c_2 (by decide)
  · refine lv_aload_n hx hb dX7_fault_13 rfl (lv_at hl 2 rfl) ?_
    refine lv_iload_n hx hb dX7_fault_14 rfl (lv_at hl 1 rfl) ?_
    refine xc_i (xr_V (As := [.int (nI 0)]) (rest := []) (κ := 20) ⟨hx, hb, hml, hown, hts⟩ (ce_X7_errandEnd l O M_1 r hτ (by rw [eM_1, xu_n _ (Or.inr (by decide))]; exact hF.2.2.1) (by rw [eM_1, xu_s])) (cwV 1 hts gX7_fault_X7_errandEnd rfl rfl rfl (by decide +kernel) ⟨Nat.le_of_ble_eq_true rfl, Nat.le_of_ble_eq_true rfl⟩) hK hst hnw hS hW hτ (by decide) rfl rfl rfl hl.1 rfl (Nat.le_of_ble_eq_true rfl) dX7_fault_15 ⟨Nat.zero_le _, Nat.zero_le _⟩) hS (fun r_5 M_3 H locs hq_4 hW hS => ?_)
    subst hq_4
    refine lv_istore_n (lv' := [(3, .int (nI 0)), (2, .int (nI 1)), (1, .int (nI 0)), (0, .ref r)]) hx hb dX7_fault_18 rfl hl (by decide) rfl (fun ls hl => ?_)
    refine lv_iload_n hx hb dX7_fault_19 rfl (lv_at hl 0 rfl) ?_
    refine lv_iload_n hx hb dX7_fault_20 rfl (lv_at hl 2 rfl) ?_
    refine lv_icmp_ne (tgt := 26) hx hb dX7_fault_21 (by decide) (fun c_6 => ?_) (fun c_6 => ?_)
    · exact absurd rfl c_6
    · refine lv_iload_n hx hb dX7_fault_24 rfl (lv_at hl 2 rfl) ?_
      exact W.iret (v := (nI 0)) hx hb hr (fun t ht hWm => ⟨⟨(nI 0), M_3, rfl, rfl, xw_end ht hW⟩, hS.F ht⟩) hS.2.2 dX7_fault_25

set_option maxHeartbeats 4000000 in
set_option maxRecDepth 100000 in
/-- HalfTicketsModel.read, new -/
theorem cm_read (l : Launch) {G : va_G} {g : Nat → ClassId} {t0 τ : Nat → Nat} {A : Nat → Prop} (O : xk_O τ A) (M : xm_T) (r : Nat) (hτ : τ r = 20) (hF : xr_F M r) : Met l yX7_read wsX7_read ({ frames := 6, cells := 0, slots := 0, locals := 190 }) (va_Pc [.ref r] (xS_t G g t0 τ A M)) (va_Qi (fun b M' => b = -3) (fun M' t => xw_D G g τ M' t.heap) A) 0 0 A := by
  refine Met.ofW (cc := cX7_read) (maxL := 2) (ret := (some .int)) (by decide) rfl ?_
  intro p e s m args below meth c s₁ B hml hv
  obtain ⟨rfl, hW, hK, hst, hnw⟩ := hv
  have hx := B.exec
  have hb := B.bytes
  have hr := B.returns
  have hts := atoms_spec (ws := wsX7_read) B.pre
  have hown : s.vm.findClass RX7 = some m.cls := findClass_of_methodNamed B.named
  have hlocks := B.notSynchronized
  have hS : va_S A s.heap s.heap [] := va_S.rf
  have inX7 : ∀ w ∈ u_ws RX7 TX7 12, w ∈ wsX7_read := by decide +kernel
  have hl := lv_entry ([.ref r]) (n := 2) (Nat.le_of_ble_eq_true rfl)
  rw [lg_entry_eq]
  generalize (lg_sl ([.ref r]) ++ List.replicate (2 - (lg_sl ([.ref r])).length) Slot.unset).toArray = ls at hl ⊢
  have hl : lv_has ls 2 [(0, .ref r)] := hl
  refine lv_aload_n hx hb dX7_read_0 rfl (lv_at hl 0 rfl) ?_
  refine xc_i (xr_V (As := []) (rest := []) (κ := 20) ⟨hx, hb, hml, hown, hts⟩ (cm_fault l O M r hτ hF) (cwV 0 hts gX7_read_X7_fault rfl rfl rfl (by decide +kernel) ⟨Nat.le_of_ble_eq_true rfl, Nat.le_of_ble_eq_true rfl⟩) hK hst hnw hS hW hτ (by decide) rfl rfl rfl hl.1 rfl (Nat.le_of_ble_eq_true rfl) dX7_read_1 ⟨Nat.zero_le _, Nat.zero_le _⟩) hS (fun r_3 M_1 H locs hq_2 hW hS => ?_)
  subst hq_2
  refine lv_bipush (v := (-6)) hx hb dX7_read_4 (by decide) ?_
  refine lv_icmp_eq (tgt := 12) hx hb dX7_read_6 (by decide) (fun c_4 => ?_) (fun c_4 => ?_)
  · exact absurd c_4 (by decide)
  · refine lv_bipush (v := (-3)) hx hb dX7_read_9 (by decide) ?_
    exact W.iret (v := (-3)) hx hb hr (fun t ht hWm => ⟨⟨(-3), M_1, rfl, rfl, xw_end ht hW⟩, hS.F ht⟩) hS.2.2 dX7_read_11

set_option maxHeartbeats 4000000 in
set_option maxRecDepth 100000 in
/-- HalfTicketsModel.undo, new -/
theorem cm_undo (l : Launch) {G : va_G} {g : Nat → ClassId} {t0 τ : Nat → Nat} {A : Nat → Prop} (O : xk_O τ A) (M : xm_T) (r : Nat) (hτ : τ r = 20) (hF : xr_F M r) : Met l yX7_undo wsX7_undo ({ frames := 5, cells := 0, slots := 0, locals := 160 }) (va_Pc [.ref r] (xS_t G g t0 τ A M)) (va_Qi (fun b M' => b = -5) (fun M' t => xw_D G g τ M' t.heap) A) 0 0 A := by
  refine Met.ofW (cc := cX7_undo) (maxL := 2) (ret := (some .int)) (by decide) rfl ?_
  intro p e s m args below meth c s₁ B hml hv
  obtain ⟨rfl, hW, hK, hst, hnw⟩ := hv
  have hx := B.exec
  have hb := B.bytes
  have hr := B.returns
  have hts := atoms_spec (ws := wsX7_undo) B.pre
  have hown : s.vm.findClass RX7 = some m.cls := findClass_of_methodNamed B.named
  have hlocks := B.notSynchronized
  have hS : va_S A s.heap s.heap [] := va_S.rf
  have inX7 : ∀ w ∈ u_ws RX7 TX7 12, w ∈ wsX7_undo := by decide +kernel
  have hl := lv_entry ([.ref r]) (n := 2) (Nat.le_of_ble_eq_true rfl)
  rw [lg_entry_eq]
  generalize (lg_sl ([.ref r]) ++ List.replicate (2 - (lg_sl ([.ref r])).length) Slot.unset).toArray = ls at hl ⊢
  have hl : lv_has ls 2 [(0, .ref r)] := hl
  refine lv_aload_n hx hb dX7_undo_0 rfl (lv_at hl 0 rfl) ?_
  refine xg_get (κ := 20) (ci := 7) (C := RX7) (T := TX7) (N := 12) hx hb hts inX7 hown hK hW hτ (by decide) rfl rfl 3 (by decide) (hts (.fieldLink RX7 37 "HalfTicketsModel" "historyLong" "I") (List.mem_of_getElem? (i := 1) (by decide +kernel))) (fun _ h9 => h9) rfl dX7_undo_1 ?_
  refine lv_if_ne (tgt := 10) hx hb dX7_undo_4 (by decide) (fun c_1 => ?_) (fun c_1 => ?_)
  · exact absurd (by rw [hF.2.1]; rfl) c_1
  · refine lv_bipush (v := (-5)) hx hb dX7_undo_7 (by decide) ?_
    exact W.iret (v := (-5)) hx hb hr (fun t ht hWm => ⟨⟨(-5), M, rfl, rfl, xw_end ht hW⟩, hS.F ht⟩) hS.2.2 dX7_undo_9

set_option maxHeartbeats 4000000 in
set_option maxRecDepth 100000 in
/-- HalfTicketsModel.save, new -/
theorem cm_save (l : Launch) {G : va_G} {g : Nat → ClassId} {t0 τ : Nat → Nat} {A : Nat → Prop} (O : xk_O τ A) (M : xm_T) (r : Nat) (hτ : τ r = 20) (hF : xr_F M r) (i : Int32) : Met l yX7_save wsX7_save ({ frames := 5, cells := 0, slots := 0, locals := 160 }) (va_Pc [.ref r, .int i] (xS_t G g t0 τ A M)) (va_Qi (fun b M' => b = xa_sav i) (fun M' t => xw_D G g τ M' t.heap) A) 0 0 A := by
  refine Met.ofW (cc := cX7_save) (maxL := 3) (ret := (some .int)) (by decide) rfl ?_
  intro p e s m args below meth c s₁ B hml hv
  obtain ⟨rfl, hW, hK, hst, hnw⟩ := hv
  have hx := B.exec
  have hb := B.bytes
  have hr := B.returns
  have hts := atoms_spec (ws := wsX7_save) B.pre
  have hown : s.vm.findClass RX7 = some m.cls := findClass_of_methodNamed B.named
  have hlocks := B.notSynchronized
  have hS : va_S A s.heap s.heap [] := va_S.rf
  have inX7 : ∀ w ∈ u_ws RX7 TX7 12, w ∈ wsX7_save := by decide +kernel
  have hl := lv_entry ([.ref r, .int i]) (n := 3) (Nat.le_of_ble_eq_true rfl)
  rw [lg_entry_eq]
  generalize (lg_sl ([.ref r, .int i]) ++ List.replicate (3 - (lg_sl ([.ref r, .int i])).length) Slot.unset).toArray = ls at hl ⊢
  have hl : lv_has ls 3 [(0, .ref r), (1, .int i)] := hl
  rcases pk_ix i (n := 2) (by omega) with hlo | hhi | ⟨k, hk, rfl⟩
  · have hsl : (if i = 0 then nI 1 else if i = nI 1 then nI 1 else nI 0) = nI 0 := (if_neg (fun z => absurd hlo (by rw [z]; decide))).trans (if_neg (fun z => absurd hlo (by rw [z]; decide)))
    refine lv_iload_n hx hb dX7_save_0 rfl (lv_at hl 1 rfl) ?_
    refine xc_i (xr_S (As := [.int i]) (rest := []) ⟨hx, hb, hml, hown, hts⟩ (c_X7_isSlot l O M i) (va_cwS 1 hts gX7_save_X7_isSlot rfl rfl rfl (by decide +kernel) ⟨Nat.le_of_ble_eq_true rfl, Nat.le_of_ble_eq_true rfl⟩) hK hst hnw hS hW rfl hl.1 rfl (Nat.le_of_ble_eq_true rfl) dX7_save_1 ⟨Nat.zero_le _, Nat.zero_le _⟩) hS (fun r_3 M_1 H locs hq_2 hW hS => ?_)
    obtain ⟨hq_2a, hq_2b⟩ := hq_2
    rw [hq_2b] at hW
    rw [hq_2a]
    rw [hsl]
    refine lv_if_ne (tgt := 10) hx hb dX7_save_4 (by decide) (fun c_4 => ?_) (fun c_4 => ?_)
    · exact absurd c_4 (by decide)
    · refine lv_bipush (v := (-2)) hx hb dX7_save_7 (by decide) ?_
      exact W.iret (v := (-2)) hx hb hr (fun t ht hWm => ⟨⟨(-2), M, rfl, (by unfold xa_sav; rw [if_pos hlo]), xw_end ht hW⟩, hS.F ht⟩) hS.2.2 dX7_save_9
  · have hsl : (if i = 0 then nI 1 else if i = nI 1 then nI 1 else nI 0) = nI 0 := (if_neg (fun z => absurd hhi (by rw [z]; decide))).trans (if_neg (fun z => absurd hhi (by rw [z]; decide)))
    refine lv_iload_n hx hb dX7_save_0 rfl (lv_at hl 1 rfl) ?_
    refine xc_i (xr_S (As := [.int i]) (rest := []) ⟨hx, hb, hml, hown, hts⟩ (c_X7_isSlot l O M i) (va_cwS 1 hts gX7_save_X7_isSlot rfl rfl rfl (by decide +kernel) ⟨Nat.le_of_ble_eq_true rfl, Nat.le_of_ble_eq_true rfl⟩) hK hst hnw hS hW rfl hl.1 rfl (Nat.le_of_ble_eq_true rfl) dX7_save_1 ⟨Nat.zero_le _, Nat.zero_le _⟩) hS (fun r_7 M_5 H locs hq_6 hW hS => ?_)
    obtain ⟨hq_6a, hq_6b⟩ := hq_6
    rw [hq_6b] at hW
    rw [hq_6a]
    rw [hsl]
    refine lv_if_ne (tgt := 10) hx hb dX7_save_4 (by decide) (fun c_8 => ?_) (fun c_8 => ?_)
    · exact absurd c_8 (by decide)
    · refine lv_bipush (v := (-2)) hx hb dX7_save_7 (by decide) ?_
      exact W.iret (v := (-2)) hx hb hr (fun t ht hWm => ⟨⟨(-2), M, rfl, (by unfold xa_sav; rw [if_neg (xi_hi hhi (by decide)), if_neg (Int32.not_lt.mpr hhi)]), xw_end ht hW⟩, hS.F ht⟩) hS.2.2 dX7_save_9
  · have hsl : (if nI k = 0 then nI 1 else if nI k = nI 1 then nI 1 else nI 0) = nI 1 := by rcases (show k = 0 ∨ k = 1 by omega) with rfl | rfl <;> decide
    refine lv_iload_n hx hb dX7_save_0 rfl (lv_at hl 1 rfl) ?_
    refine xc_i (xr_S (As := [.int (nI k)]) (rest := []) ⟨hx, hb, hml, hown, hts⟩ (c_X7_isSlot l O M (nI k)) (va_cwS 1 hts gX7_save_X7_isSlot rfl rfl rfl (by decide +kernel) ⟨Nat.le_of_ble_eq_true rfl, Nat.le_of_ble_eq_true rfl⟩) hK hst hnw hS hW rfl hl.1 rfl (Nat.le_of_ble_eq_true rfl) dX7_save_1 ⟨Nat.zero_le _, Nat.zero_le _⟩) hS (fun r_11 M_9 H locs hq_10 hW hS => ?_)
    obtain ⟨hq_10a, hq_10b⟩ := hq_10
    rw [hq_10b] at hW
    rw [hq_10a]
    rw [hsl]
    refine lv_if_ne (tgt := 10) hx hb dX7_save_4 (by decide) (fun c_12 => ?_) (fun c_12 => ?_)
    · refine lv_iconst (v := (nI 0)) hx hb dX7_save_10 (by decide) ?_
      refine lv_istore_n (lv' := [(2, .int (nI 0)), (0, .ref r), (1, .int (nI k))]) hx hb dX7_save_11 rfl hl (by decide) rfl (fun ls hl => ?_)
      refine xl_up (σ := xm_T) 326 (fun kk zz H locs ls => xw_D G g τ zz H ∧ va_S A s.heap H locs ∧ lv_has ls 3 [(2, .int (nI kk)), (0, .ref r), (1, .int (nI k))] ∧ ∀ x, x ≠ r + 4 → zz x = M x) (fun z12 H locs ls hI => ?_) (fun k12 z12 H locs ls hk12 hI ih12 => ?_) (k0 := 0) (z0 := M) (Nat.zero_le _) ⟨hW, hS, lv_sub hl [0, 1, 2] rfl, (fun _ _ => rfl)⟩
      · obtain ⟨hW, hS, hl, hE12⟩ := hI
        refine lv_iload_n hx hb dX7_save_12 rfl (lv_at hl 0 rfl) ?_
        refine lv_sipush (v := (nI 326)) hx hb dX7_save_13 (by decide) ?_
        refine lv_icmp_ge (tgt := 43) hx hb dX7_save_16 (by decide) (fun c_13 => ?_) (fun c_13 => ?_)
        · refine lv_aload_n hx hb dX7_save_43 rfl (lv_at hl 1 rfl) ?_
          refine xg_get (κ := 20) (ci := 7) (C := RX7) (T := TX7) (N := 12) hx hb hts inX7 hown hK hW hτ (by decide) rfl rfl 5 (by decide) (hts (.fieldLink RX7 22 "HalfTicketsModel" "isSaved" "[I") (List.mem_of_getElem? (i := 3) (by decide +kernel))) (fun _ h9 => h9) rfl dX7_save_44 ?_
          refine lv_iload_n hx hb dX7_save_47 rfl (lv_at hl 2 rfl) ?_
          refine lv_iconst (v := (nI 1)) hx hb dX7_save_48 (by decide) ?_
          refine xg_iast (κ := 102) (n := 2) hx hb hK O hW hS (O.n5 hτ) (by decide) (fun _ => rfl) (fun _ => trivial) k rfl hk (by decide) dX7_save_49 (fun H locs hW hS => ?_)
          obtain ⟨M_14, eM_14⟩ : ∃ M9, M9 = xu_p z12 (r + 5) k (nI 1) := ⟨_, rfl⟩
          rw [← eM_14] at hW
          refine lv_aload_n hx hb dX7_save_50 rfl (lv_at hl 1 rfl) ?_
          refine xg_get (κ := 20) (ci := 7) (C := RX7) (T := TX7) (N := 12) hx hb hts inX7 hown hK hW hτ (by decide) rfl rfl 0 (by decide) (hts (.fieldLink RX7 7 "HalfTicketsModel" "all" "[I") (List.mem_of_getElem? (i := 2) (by decide +kernel))) (fun _ h9 => h9) rfl dX7_save_51 ?_
          refine lv_iconst (v := (nI 3)) hx hb dX7_save_54 (by decide) ?_
          refine xg_iald (κ := 426) (n := 326) hx hb hK hW (O.n1 hτ) (by decide) rfl 3 rfl (by decide) (by decide) dX7_save_55 ?_
          exact W.iret (v := (M_14 (r + 1) 3)) hx hb hr (fun t ht hWm => ⟨⟨(M_14 (r + 1) 3), M_14, rfl, (((by rw [eM_14, xu_n _ (Or.inl (by omega)), hE12 _ (by omega), hF.1 3 (by decide)]; decide) : M_14 (r + 1) 3 = nI 0).trans (show _ = xa_sav (nI k) by rcases (show k = 0 ∨ k = 1 by omega) with rfl | rfl <;> decide)), xw_end ht hW⟩, hS.F ht⟩) hS.2.2 dX7_save_56
        · exact absurd (nI_le (Nat.le_refl _) (by decide)) c_13
      · obtain ⟨hW, hS, hl, hE12⟩ := hI
        refine lv_iload_n hx hb dX7_save_12 rfl (lv_at hl 0 rfl) ?_
        refine lv_sipush (v := (nI 326)) hx hb dX7_save_13 (by decide) ?_
        refine lv_icmp_ge (tgt := 43) hx hb dX7_save_16 (by decide) (fun c_15 => ?_) (fun c_15 => ?_)
        · exact absurd c_15 (nI_ge hk12 (by decide))
        · refine lv_aload_n hx hb dX7_save_19 rfl (lv_at hl 1 rfl) ?_
          refine xg_get (κ := 20) (ci := 7) (C := RX7) (T := TX7) (N := 12) hx hb hts inX7 hown hK hW hτ (by decide) rfl rfl 4 (by decide) (hts (.fieldLink RX7 19 "HalfTicketsModel" "slots" "[I") (List.mem_of_getElem? (i := 1) (by decide +kernel))) (fun _ h9 => h9) rfl dX7_save_20 ?_
          refine lv_sipush (v := (nI 326)) hx hb dX7_save_23 (by decide) ?_
          refine lv_iload_n hx hb dX7_save_26 rfl (lv_at hl 2 rfl) ?_
          refine lv_imul hx hb dX7_save_27 ?_
          refine lv_iload_n hx hb dX7_save_28 rfl (lv_at hl 0 rfl) ?_
          refine lv_iadd hx hb dX7_save_29 ?_
          refine lv_aload_n hx hb dX7_save_30 rfl (lv_at hl 1 rfl) ?_
          refine xg_get (κ := 20) (ci := 7) (C := RX7) (T := TX7) (N := 12) hx hb hts inX7 hown hK hW hτ (by decide) rfl rfl 0 (by decide) (hts (.fieldLink RX7 7 "HalfTicketsModel" "all" "[I") (List.mem_of_getElem? (i := 2) (by decide +kernel))) (fun _ h9 => h9) rfl dX7_save_31 ?_
          refine lv_iload_n hx hb dX7_save_34 rfl (lv_at hl 0 rfl) ?_
          refine xg_iald (κ := 426) (n := 326) hx hb hK hW (O.n1 hτ) (by decide) rfl k12 rfl hk12 (by decide) dX7_save_35 ?_
          refine xg_iast (κ := 752) (n := 652) hx hb hK O hW hS (O.n4 hτ) (by decide) (fun _ => rfl) (fun _ => trivial) (326 * k + k12) (by rw [pk_mul, nI_add]) (by omega) (by decide) dX7_save_36 (fun H locs hW hS => ?_)
          obtain ⟨M_16, eM_16⟩ : ∃ M9, M9 = xu_p z12 (r + 4) (326 * k + k12) (z12 (r + 1) k12) := ⟨_, rfl⟩
          rw [← eM_16] at hW
          refine lv_iinc (v := (nI (k12 + 1))) (lv' := [(2, .int (nI (k12 + 1))), (0, .ref r), (1, .int (nI k))]) hx hb dX7_save_37 hl (k := 0) rfl ((nI_1 k12)) (by decide) rfl (fun ls hl => ?_)
          refine lv_goto (tgt := 12) hx hb dX7_save_40 (by decide) ?_
          exact ih12 M_16 _ _ _ ⟨hW, hS, lv_sub hl [0, 1, 2] rfl, (fun x hx => by rw [eM_16, xu_p, xr_n _ _ hx]; exact hE12 x hx)⟩
    · exact absurd c_12 (by decide)

set_option maxHeartbeats 4000000 in
set_option maxRecDepth 100000 in
/-- HalfTicketsModel.restore, new -/
theorem cm_restore (l : Launch) {G : va_G} {g : Nat → ClassId} {t0 τ : Nat → Nat} {A : Nat → Prop} (O : xk_O τ A) (M : xm_T) (r : Nat) (hτ : τ r = 20) (hF : xr_F M r) (i : Int32) : Met l yX7_restore wsX7_restore ({ frames := 5, cells := 0, slots := 0, locals := 160 }) (va_Pc [.ref r, .int i] (xS_t G g t0 τ A M)) (va_Qi (fun b M' => b = xa_res i) (fun M' t => xw_D G g τ M' t.heap) A) 0 0 A := by
  refine Met.ofW (cc := cX7_restore) (maxL := 3) (ret := (some .int)) (by decide) rfl ?_
  intro p e s m args below meth c s₁ B hml hv
  obtain ⟨rfl, hW, hK, hst, hnw⟩ := hv
  have hx := B.exec
  have hb := B.bytes
  have hr := B.returns
  have hts := atoms_spec (ws := wsX7_restore) B.pre
  have hown : s.vm.findClass RX7 = some m.cls := findClass_of_methodNamed B.named
  have hlocks := B.notSynchronized
  have hS : va_S A s.heap s.heap [] := va_S.rf
  have inX7 : ∀ w ∈ u_ws RX7 TX7 12, w ∈ wsX7_restore := by decide +kernel
  have hl := lv_entry ([.ref r, .int i]) (n := 3) (Nat.le_of_ble_eq_true rfl)
  rw [lg_entry_eq]
  generalize (lg_sl ([.ref r, .int i]) ++ List.replicate (3 - (lg_sl ([.ref r, .int i])).length) Slot.unset).toArray = ls at hl ⊢
  have hl : lv_has ls 3 [(0, .ref r), (1, .int i)] := hl
  rcases pk_ix i (n := 2) (by omega) with hlo | hhi | ⟨k, hk, rfl⟩
  · have hsl : (if i = 0 then nI 1 else if i = nI 1 then nI 1 else nI 0) = nI 0 := (if_neg (fun z => absurd hlo (by rw [z]; decide))).trans (if_neg (fun z => absurd hlo (by rw [z]; decide)))
    refine lv_iload_n hx hb dX7_restore_0 rfl (lv_at hl 1 rfl) ?_
    refine xc_i (xr_S (As := [.int i]) (rest := []) ⟨hx, hb, hml, hown, hts⟩ (c_X7_isSlot l O M i) (va_cwS 1 hts gX7_restore_X7_isSlot rfl rfl rfl (by decide +kernel) ⟨Nat.le_of_ble_eq_true rfl, Nat.le_of_ble_eq_true rfl⟩) hK hst hnw hS hW rfl hl.1 rfl (Nat.le_of_ble_eq_true rfl) dX7_restore_1 ⟨Nat.zero_le _, Nat.zero_le _⟩) hS (fun r_3 M_1 H locs hq_2 hW hS => ?_)
    obtain ⟨hq_2a, hq_2b⟩ := hq_2
    rw [hq_2b] at hW
    rw [hq_2a]
    rw [hsl]
    refine lv_if_ne (tgt := 10) hx hb dX7_restore_4 (by decide) (fun c_4 => ?_) (fun c_4 => ?_)
    · exact absurd c_4 (by decide)
    · refine lv_bipush (v := (-2)) hx hb dX7_restore_7 (by decide) ?_
      exact W.iret (v := (-2)) hx hb hr (fun t ht hWm => ⟨⟨(-2), M, rfl, (by unfold xa_res; rw [if_pos hlo]), xw_end ht hW⟩, hS.F ht⟩) hS.2.2 dX7_restore_9
  · have hsl : (if i = 0 then nI 1 else if i = nI 1 then nI 1 else nI 0) = nI 0 := (if_neg (fun z => absurd hhi (by rw [z]; decide))).trans (if_neg (fun z => absurd hhi (by rw [z]; decide)))
    refine lv_iload_n hx hb dX7_restore_0 rfl (lv_at hl 1 rfl) ?_
    refine xc_i (xr_S (As := [.int i]) (rest := []) ⟨hx, hb, hml, hown, hts⟩ (c_X7_isSlot l O M i) (va_cwS 1 hts gX7_restore_X7_isSlot rfl rfl rfl (by decide +kernel) ⟨Nat.le_of_ble_eq_true rfl, Nat.le_of_ble_eq_true rfl⟩) hK hst hnw hS hW rfl hl.1 rfl (Nat.le_of_ble_eq_true rfl) dX7_restore_1 ⟨Nat.zero_le _, Nat.zero_le _⟩) hS (fun r_7 M_5 H locs hq_6 hW hS => ?_)
    obtain ⟨hq_6a, hq_6b⟩ := hq_6
    rw [hq_6b] at hW
    rw [hq_6a]
    rw [hsl]
    refine lv_if_ne (tgt := 10) hx hb dX7_restore_4 (by decide) (fun c_8 => ?_) (fun c_8 => ?_)
    · exact absurd c_8 (by decide)
    · refine lv_bipush (v := (-2)) hx hb dX7_restore_7 (by decide) ?_
      exact W.iret (v := (-2)) hx hb hr (fun t ht hWm => ⟨⟨(-2), M, rfl, (by unfold xa_res; rw [if_neg (xi_hi hhi (by decide)), if_neg (Int32.not_lt.mpr hhi)]), xw_end ht hW⟩, hS.F ht⟩) hS.2.2 dX7_restore_9
  · have hsl : (if nI k = 0 then nI 1 else if nI k = nI 1 then nI 1 else nI 0) = nI 1 := by rcases (show k = 0 ∨ k = 1 by omega) with rfl | rfl <;> decide
    refine lv_iload_n hx hb dX7_restore_0 rfl (lv_at hl 1 rfl) ?_
    refine xc_i (xr_S (As := [.int (nI k)]) (rest := []) ⟨hx, hb, hml, hown, hts⟩ (c_X7_isSlot l O M (nI k)) (va_cwS 1 hts gX7_restore_X7_isSlot rfl rfl rfl (by decide +kernel) ⟨Nat.le_of_ble_eq_true rfl, Nat.le_of_ble_eq_true rfl⟩) hK hst hnw hS hW rfl hl.1 rfl (Nat.le_of_ble_eq_true rfl) dX7_restore_1 ⟨Nat.zero_le _, Nat.zero_le _⟩) hS (fun r_11 M_9 H locs hq_10 hW hS => ?_)
    obtain ⟨hq_10a, hq_10b⟩ := hq_10
    rw [hq_10b] at hW
    rw [hq_10a]
    rw [hsl]
    refine lv_if_ne (tgt := 10) hx hb dX7_restore_4 (by decide) (fun c_12 => ?_) (fun c_12 => ?_)
    · refine lv_aload_n hx hb dX7_restore_10 rfl (lv_at hl 0 rfl) ?_
      refine xg_get (κ := 20) (ci := 7) (C := RX7) (T := TX7) (N := 12) hx hb hts inX7 hown hK hW hτ (by decide) rfl rfl 5 (by decide) (hts (.fieldLink RX7 22 "HalfTicketsModel" "isSaved" "[I") (List.mem_of_getElem? (i := 1) (by decide +kernel))) (fun _ h9 => h9) rfl dX7_restore_11 ?_
      refine lv_iload_n hx hb dX7_restore_14 rfl (lv_at hl 1 rfl) ?_
      refine xg_iald (κ := 102) (n := 2) hx hb hK hW (O.n5 hτ) (by decide) rfl k rfl hk (by decide) dX7_restore_15 ?_
      refine lv_if_ne (tgt := 22) hx hb dX7_restore_16 (by decide) (fun c_13 => ?_) (fun c_13 => ?_)
      · exact absurd (by rw [hF.2.2.2 k hk]; rfl) c_13
      · refine lv_bipush (v := (-5)) hx hb dX7_restore_19 (by decide) ?_
        exact W.iret (v := (-5)) hx hb hr (fun t ht hWm => ⟨⟨(-5), M, rfl, ((show _ = xa_res (nI k) by rcases (show k = 0 ∨ k = 1 by omega) with rfl | rfl <;> decide)), xw_end ht hW⟩, hS.F ht⟩) hS.2.2 dX7_restore_21
    · exact absurd c_12 (by decide)
