set_option maxHeartbeats 4000000 in
set_option maxRecDepth 100000 in
/-- serveAt(w) -/
theorem c_X2_serveAt (l : Launch) {G : va_G} {g : Nat → ClassId} {t0 τ : Nat → Nat} {A : Nat → Prop} (O : xk_O τ A) (M : xm_T) (a w : Nat) (hτ : τ a = 1) {nn TT GG BB : Nat} (h : zi a M nn TT GG BB) (hT : TT + 1 ≤ GG) (hB : BB + 24 < 2 ^ 31) (hw : w < 6) : Met l yX2_serveAt wsX2_serveAt ({ frames := 3, cells := 0, slots := 0, locals := 90 }) (va_Pc [.ref a, .ref (a + 5 * w + 4)] (xS_t G g t0 τ A M)) (va_Qv (fun M' => M' = zm_sv a w M) (fun M' t => xw_D G g τ M' t.heap) A) 0 0 A := by
  refine Met.ofW (cc := cX2_serveAt) (maxL := 6) (ret := none) (by decide) rfl ?_
  intro p e s m args below meth c s₁ B hml hv
  obtain ⟨rfl, hW, hK, hst, hnw⟩ := hv
  have hx := B.exec
  have hb := B.bytes
  have hr := B.returns
  have hts := atoms_spec (ws := wsX2_serveAt) B.pre
  have hown : s.vm.findClass RX2 = some m.cls := findClass_of_methodNamed B.named
  have hlocks := B.notSynchronized
  have hS : va_S A s.heap s.heap [] := va_S.rf
  have inX2 : ∀ w ∈ u_ws RX2 TX2 7, w ∈ wsX2_serveAt := by decide +kernel
  have inX4 : ∀ w ∈ u_ws RX4 TX4 12, w ∈ wsX2_serveAt := by decide +kernel
  have inX5 : ∀ w ∈ u_ws RX5 TX5 7, w ∈ wsX2_serveAt := by decide +kernel
  have hl := lv_entry ([.ref a, .ref (a + 5 * w + 4)]) (n := 6) (Nat.le_of_ble_eq_true rfl)
  rw [lg_entry_eq]
  generalize (lg_sl ([.ref a, .ref (a + 5 * w + 4)]) ++ List.replicate (6 - (lg_sl ([.ref a, .ref (a + 5 * w + 4)])).length) Slot.unset).toArray = ls at hl ⊢
  have hl : lv_has ls 6 [(0, .ref a), (1, .ref (a + 5 * w + 4))] := hl
  obtain ⟨L, hL24, hL⟩ := zi_Ls h hw
  refine lv_iconst (v := (nI 0)) hx hb dX2_serveAt_0 (by decide) ?_
  refine lv_istore_n (lv' := [(2, .int (nI 0)), (0, .ref a), (1, .ref (a + 5 * w + 4))]) hx hb dX2_serveAt_1 rfl hl (by decide) rfl (fun ls hl => ?_)
  refine lv_aload_n hx hb dX2_serveAt_2 rfl (lv_at hl 2 rfl) ?_
  refine xg_get (κ := 5) (ci := 5) (C := RX5) (T := TX5) (N := 7) hx hb hts inX5 hown hK hW (O.w hτ hw) (by decide) rfl rfl 6 (by decide) (hts (.fieldLink RX2 150 "HalfTickets$Window" "serving" "LHalfTickets$Line;") (List.mem_of_getElem? (i := 1) (by decide +kernel))) (fun _ h9 => h9) rfl dX2_serveAt_3 ?_
  refine xc_i (xr_V (As := []) (rest := []) (κ := 6) ⟨hx, hb, hml, hown, hts⟩ (c_X1_length l O M (a + 5 * w + 7) (O.r (O.w hτ hw))) (cwV 0 hts gX2_serveAt_X1_length rfl rfl rfl (by decide +kernel) ⟨Nat.le_of_ble_eq_true rfl, Nat.le_of_ble_eq_true rfl⟩) hK hst hnw hS hW (O.r (O.w hτ hw)) (by decide) rfl rfl rfl hl.1 rfl (Nat.le_of_ble_eq_true rfl) dX2_serveAt_6 ⟨Nat.zero_le _, Nat.zero_le _⟩) hS (fun r_3 M_1 H locs hq_2 hW hS => ?_)
  obtain ⟨hq_2a, hq_2b⟩ := hq_2
  rw [hq_2b] at hW
  rw [hq_2a]
  rw [hL]
  refine lv_istore_n (lv' := [(3, .int (nI L)), (2, .int (nI 0)), (0, .ref a), (1, .ref (a + 5 * w + 4))]) hx hb dX2_serveAt_9 rfl hl (by decide) rfl (fun ls hl => ?_)
  refine lv_iconst (v := (nI 0)) hx hb dX2_serveAt_10 (by decide) ?_
  refine lv_istore (lv' := [(4, .int (nI 0)), (3, .int (nI L)), (2, .int (nI 0)), (0, .ref a), (1, .ref (a + 5 * w + 4))]) hx hb dX2_serveAt_11 hl (by decide) rfl (fun ls hl => ?_)
  refine xl_up (σ := (xm_T × Nat)) L (fun kk zz H locs ls => xw_D G g τ zz.1 H ∧ va_S A s.heap H locs ∧ lv_has ls 6 [(4, .int (nI kk)), (2, .int (nI zz.2)), (3, .int (nI L)), (0, .ref a), (1, .ref (a + 5 * w + 4))] ∧ zz = zm_it (zm_s1 a w) kk (M, 0)) (fun z13 H locs ls hI => ?_) (fun k13 z13 H locs ls hk13 hI ih13 => ?_) (k0 := 0) (z0 := (M, 0)) (Nat.zero_le _) ⟨hW, hS, lv_sub hl [0, 2, 1, 3, 4] rfl, rfl⟩
  · obtain ⟨hW, hS, hl, hE13⟩ := hI
    refine lv_iload hx hb dX2_serveAt_13 (lv_at hl 0 rfl) ?_
    refine lv_iload_n hx hb dX2_serveAt_15 rfl (lv_at hl 2 rfl) ?_
    refine lv_icmp_ge (tgt := 99) hx hb dX2_serveAt_16 (by decide) (fun c_4 => ?_) (fun c_4 => ?_)
    · exact W.vret hx hb hr (fun t ht hWm => ⟨⟨z13.1, rfl, (by unfold zm_sv; rw [hL, nI_clamp (by omega), ← hE13]), xw_end ht hW⟩, hS.F ht⟩) hS.2.2 dX2_serveAt_99
    · exact absurd (nI_le (Nat.le_refl _) (by omega)) c_4
  · obtain ⟨hW, hS, hl, hE13⟩ := hI
    obtain ⟨gz, L1, gL, gl, gp⟩ := zi_svn h hT hB hw hL hL24 k13 (by omega)
    rw [← hE13] at gz gl gp
    have hz2 : z13.2 < L1 := by omega
    obtain ⟨k, mm, tt, q1, q2, q3, q4, q5, q6, q7, q8, q9⟩ := zi_sn gz hw gl gL hz2
    have hk : k < 24 := by have := gz.n; omega
    refine lv_iload hx hb dX2_serveAt_13 (lv_at hl 0 rfl) ?_
    refine lv_iload_n hx hb dX2_serveAt_15 rfl (lv_at hl 2 rfl) ?_
    refine lv_icmp_ge (tgt := 99) hx hb dX2_serveAt_16 (by decide) (fun c_5 => ?_) (fun c_5 => ?_)
    · exact absurd c_5 (nI_ge hk13 (by omega))
    · refine lv_aload_n hx hb dX2_serveAt_19 rfl (lv_at hl 3 rfl) ?_
      refine lv_aload_n hx hb dX2_serveAt_20 rfl (lv_at hl 4 rfl) ?_
      refine xg_get (κ := 5) (ci := 5) (C := RX5) (T := TX5) (N := 7) hx hb hts inX5 hown hK hW (O.w hτ hw) (by decide) rfl rfl 6 (by decide) (hts (.fieldLink RX2 150 "HalfTickets$Window" "serving" "LHalfTickets$Line;") (List.mem_of_getElem? (i := 1) (by decide +kernel))) (fun _ h9 => h9) rfl dX2_serveAt_21 ?_
      refine lv_iload_n hx hb dX2_serveAt_24 rfl (lv_at hl 1 rfl) ?_
      refine xc_i (xr_V (As := [.int (nI z13.2)]) (rest := [.ref a]) (κ := 6) ⟨hx, hb, hml, hown, hts⟩ (c_X1_numberAt l O z13.1 (a + 5 * w + 7) (O.r (O.w hτ hw)) (nI z13.2) gL gl) (cwV 1 hts gX2_serveAt_X1_numberAt rfl rfl rfl (by decide +kernel) ⟨Nat.le_of_ble_eq_true rfl, Nat.le_of_ble_eq_true rfl⟩) hK hst hnw hS hW (O.r (O.w hτ hw)) (by decide) rfl rfl rfl hl.1 rfl (Nat.le_of_ble_eq_true rfl) dX2_serveAt_25 ⟨Nat.zero_le _, Nat.zero_le _⟩) hS (fun r_8 M_6 H locs hq_7 hW hS => ?_)
      obtain ⟨hq_7a, hq_7b⟩ := hq_7
      rw [hq_7b] at hW
      rw [hq_7a]
      rw [xf_at_n gl hz2 gL (v := nI k) q2]
      refine xc_q (xr_V (As := [.int (nI k)]) (rest := []) (κ := 1) ⟨hx, hb, hml, hown, hts⟩ (c_X2_personAt l O z13.1 a hτ (nI k)) (cwV 1 hts gX2_serveAt_X2_personAt rfl rfl rfl (by decide +kernel) ⟨Nat.le_of_ble_eq_true rfl, Nat.le_of_ble_eq_true rfl⟩) hK hst hnw hS hW hτ (by decide) rfl rfl rfl hl.1 rfl (Nat.le_of_ble_eq_true rfl) dX2_serveAt_28 ⟨Nat.zero_le _, Nat.zero_le _⟩) hS (fun r_11 M_9 H locs hq_10 hW hS => ?_)
      obtain ⟨hq_10a, hq_10b⟩ := hq_10
      rw [hq_10b] at hW
      rw [hq_10a]
      rw [xf_per_s gz.1.2.1 gz.n q1]
      refine W.eq (g2 := F0 m 31 ls [.ref (a + 2 * k + 34)]) rfl ?_
      refine lv_astore (lv' := [(5, .ref (a + 2 * k + 34)), (4, .int (nI k13)), (2, .int (nI z13.2)), (3, .int (nI L)), (0, .ref a), (1, .ref (a + 5 * w + 4))]) hx hb dX2_serveAt_31 hl (by decide) rfl (fun ls hl => ?_)
      refine lv_aload hx hb dX2_serveAt_33 (lv_at hl 0 rfl) ?_
      refine lv_ifnull hx hb dX2_serveAt_35 ?_
      refine lv_aload hx hb dX2_serveAt_38 (lv_at hl 0 rfl) ?_
      refine lv_dup hx hb dX2_serveAt_40 rfl ?_
      refine xg_get (κ := 8) (ci := 4) (C := RX4) (T := TX4) (N := 12) hx hb hts inX4 hown hK hW (O.p hτ hk) (by decide) rfl rfl 6 (by decide) (hts (.fieldLink RX2 163 "HalfTickets$Person" "servedFor" "I") (List.mem_of_getElem? (i := 2) (by decide +kernel))) (fun _ h9 => h9) rfl dX2_serveAt_41 ?_
      refine lv_iconst (v := (nI 1)) hx hb dX2_serveAt_44 (by decide) ?_
      refine lv_iadd hx hb dX2_serveAt_45 ?_
      refine xg_put (κ := 8) (ci := 4) (C := RX4) (T := TX4) (N := 12) hx hb hts inX4 tyX4 tyX4_ok nmX4 hown hK O hW hS (O.p hτ hk) (by decide) rfl rfl 6 (by decide) (v := ((z13.1 (a + 2 * k + 34) 6) + (nI 1))) rfl (xw_okp hW (O.p hτ hk) (by decide)) (hts (.fieldLink RX2 163 "HalfTickets$Person" "servedFor" "I") (List.mem_of_getElem? (i := 2) (by decide +kernel))) (fun _ h9 => h9) rfl (ty := .int) (by decide +kernel) rfl rfl (Nat.le_of_ble_eq_true rfl) dX2_serveAt_46 (fun H locs hW hS => ?_)
      obtain ⟨M_12, eM_12⟩ : ∃ M9, M9 = xu_p z13.1 (a + 2 * k + 34) 6 ((z13.1 (a + 2 * k + 34) 6) + (nI 1)) := ⟨_, rfl⟩
      rw [← eM_12] at hW
      have hox : ∀ x, x ≠ (a + 2 * k + 34) → M_12 x = z13.1 x := fun x hx => by rw [eM_12]; exact xr_n _ _ hx
      refine lv_aload hx hb dX2_serveAt_49 (lv_at hl 0 rfl) ?_
      refine lv_ifnull hx hb dX2_serveAt_51 ?_
      refine lv_aload hx hb dX2_serveAt_54 (lv_at hl 0 rfl) ?_
      refine xg_get (κ := 8) (ci := 4) (C := RX4) (T := TX4) (N := 12) hx hb hts inX4 hown hK hW (O.p hτ hk) (by decide) rfl rfl 6 (by decide) (hts (.fieldLink RX2 163 "HalfTickets$Person" "servedFor" "I") (List.mem_of_getElem? (i := 2) (by decide +kernel))) (fun _ h9 => h9) rfl dX2_serveAt_56 ?_
      refine lv_aload_n hx hb dX2_serveAt_59 rfl (lv_at hl 4 rfl) ?_
      refine xg_get (κ := 1) (ci := 2) (C := RX2) (T := TX2) (N := 7) hx hb hts inX2 hown hK hW hτ (by decide) rfl rfl 0 (by decide) (hts (.fieldLink RX2 18 "HalfTickets$Ministry" "settings" "[I") (List.mem_of_getElem? (i := 3) (by decide +kernel))) (fun _ h9 => h9) rfl dX2_serveAt_60 ?_
      refine lv_iconst (v := (nI 0)) hx hb dX2_serveAt_63 (by decide) ?_
      refine xg_iald (κ := 103) (n := 3) hx hb hK hW (O.m1 hτ) (by decide) rfl 0 rfl (by decide) (by decide) dX2_serveAt_64 ?_
      refine lv_icmp_lt (tgt := 90) hx hb dX2_serveAt_65 (by decide) (fun c_13 => ?_) (fun c_13 => ?_)
      · rw [eM_12, xu_s, xu_n _ (Or.inl (by omega))] at c_13
        refine lv_iinc (v := (nI (z13.2 + 1))) (lv' := [(2, .int (nI (z13.2 + 1))), (5, .ref (a + 2 * k + 34)), (4, .int (nI k13)), (3, .int (nI L)), (0, .ref a), (1, .ref (a + 5 * w + 4))]) hx hb dX2_serveAt_90 hl (k := 2) rfl ((nI_1 z13.2)) (by decide) rfl (fun ls hl => ?_)
        refine lv_iinc (v := (nI (k13 + 1))) (lv' := [(4, .int (nI (k13 + 1))), (2, .int (nI (z13.2 + 1))), (5, .ref (a + 2 * k + 34)), (3, .int (nI L)), (0, .ref a), (1, .ref (a + 5 * w + 4))]) hx hb dX2_serveAt_93 hl (k := 2) rfl ((nI_1 k13)) (by decide) rfl (fun ls hl => ?_)
        refine lv_goto (tgt := 13) hx hb dX2_serveAt_96 (by decide) ?_
        exact ih13 (M_12, z13.2 + 1) _ _ _ ⟨hW, hS, lv_sub hl [0, 1, 3, 4, 5] rfl, (by show _ = zm_s1 a w (zm_it (zm_s1 a w) k13 (M, 0)); rw [← hE13]; unfold zm_s1; rw [q2, nI_clamp (by omega), if_pos hk]; unfold zm_s0; rw [if_pos c_13, eM_12])⟩
      · rw [eM_12, xu_s, xu_n _ (Or.inl (by omega))] at c_13
        refine lv_aload_n hx hb dX2_serveAt_68 rfl (lv_at hl 5 rfl) ?_
        refine xg_get (κ := 5) (ci := 5) (C := RX5) (T := TX5) (N := 7) hx hb hts inX5 hown hK hW (O.w hτ hw) (by decide) rfl rfl 6 (by decide) (hts (.fieldLink RX2 150 "HalfTickets$Window" "serving" "LHalfTickets$Line;") (List.mem_of_getElem? (i := 1) (by decide +kernel))) (fun _ h9 => h9) rfl dX2_serveAt_69 ?_
        refine lv_aload hx hb dX2_serveAt_72 (lv_at hl 0 rfl) ?_
        refine xg_get (κ := 8) (ci := 4) (C := RX4) (T := TX4) (N := 12) hx hb hts inX4 hown hK hW (O.p hτ hk) (by decide) rfl rfl 0 (by decide) (hts (.fieldLink RX2 96 "HalfTickets$Person" "number" "I") (List.mem_of_getElem? (i := 4) (by decide +kernel))) (fun _ h9 => h9) rfl dX2_serveAt_74 ?_
        have gl1 : M_12 (a + 5 * w + 7) 1 = nI L1 := by rw [hox _ (by omega)]; exact gl
        refine xc_v (xr_V (As := [.int (M_12 (a + 2 * k + 34) 0)]) (rest := []) (κ := 6) ⟨hx, hb, hml, hown, hts⟩ (c_X1_remove l O M_12 (a + 5 * w + 7) (O.r (O.w hτ hw)) gL gl1 (M_12 (a + 2 * k + 34) 0)) (cwV 1 hts gX2_serveAt_X1_remove rfl rfl rfl (by decide +kernel) ⟨Nat.le_of_ble_eq_true rfl, Nat.le_of_ble_eq_true rfl⟩) hK hst hnw hS hW (O.r (O.w hτ hw)) (by decide) rfl rfl rfl hl.1 rfl (Nat.le_of_ble_eq_true rfl) dX2_serveAt_77 ⟨Nat.zero_le _, Nat.zero_le _⟩) hS (fun M_14 H locs hq_15 hW hS => ?_)
        have ho : ∀ x, x ≠ a + 5 * w + 7 → x ≠ a + 5 * w + 8 → M_14 x = M_12 x := fun x h1 h2 => by rw [hq_15]; exact zl_rv_o h1 h2
        refine lv_aload_n hx hb dX2_serveAt_80 rfl (lv_at hl 4 rfl) ?_
        refine lv_aload_n hx hb dX2_serveAt_81 rfl (lv_at hl 5 rfl) ?_
        refine lv_aload hx hb dX2_serveAt_82 (lv_at hl 0 rfl) ?_
        refine xc_v (xr_V (As := [.ref (a + 5 * w + 4), .ref (a + 2 * k + 34)]) (rest := []) (κ := 1) ⟨hx, hb, hml, hown, hts⟩ (c_X2_finishAt l O M_14 a w k hτ hw hk (by rw [ho _ (by omega) (by omega), eM_12, xu_n _ (Or.inr (by decide))]; exact q4) (by rw [ho _ (by omega) (by omega), eM_12, xu_n _ (Or.inr (by decide))]; exact q5) q6 q7 (fun i hi => by rw [ho _ (by omega) (by omega), hox _ (by omega)]; exact q8 i hi) (fun u hu => by rw [ho _ (by omega) (by omega), hox _ (by omega)]; exact q9 u hu)) (cwV 2 hts gX2_serveAt_X2_finishAt rfl rfl rfl (by decide +kernel) ⟨Nat.le_of_ble_eq_true rfl, Nat.le_of_ble_eq_true rfl⟩) hK hst hnw hS hW hτ (by decide) rfl rfl rfl hl.1 rfl (Nat.le_of_ble_eq_true rfl) dX2_serveAt_84 ⟨Nat.zero_le _, Nat.zero_le _⟩) hS (fun M_17 H locs hq_18 hW hS => ?_)
        refine lv_goto (tgt := 93) hx hb dX2_serveAt_87 (by decide) ?_
        refine lv_iinc (v := (nI (k13 + 1))) (lv' := [(4, .int (nI (k13 + 1))), (5, .ref (a + 2 * k + 34)), (2, .int (nI z13.2)), (3, .int (nI L)), (0, .ref a), (1, .ref (a + 5 * w + 4))]) hx hb dX2_serveAt_93 hl (k := 1) rfl ((nI_1 k13)) (by decide) rfl (fun ls hl => ?_)
        refine lv_goto (tgt := 13) hx hb dX2_serveAt_96 (by decide) ?_
        exact ih13 (M_17, z13.2) _ _ _ ⟨hW, hS, lv_sub hl [0, 2, 3, 4, 5] rfl, (by show _ = zm_s1 a w (zm_it (zm_s1 a w) k13 (M, 0)); rw [← hE13]; unfold zm_s1; rw [q2, nI_clamp (by omega), if_pos hk]; unfold zm_s0; rw [if_neg c_13, hq_18, hq_15, show M_12 (a + 2 * k + 34) 0 = z13.1 (a + 2 * k + 34) 0 by rw [eM_12, xu_n _ (Or.inr (by decide))], eM_12])⟩

set_option maxHeartbeats 4000000 in
set_option maxRecDepth 100000 in
/-- callAt(w) -/
theorem c_X2_callAt (l : Launch) {G : va_G} {g : Nat → ClassId} {t0 τ : Nat → Nat} {A : Nat → Prop} (O : xk_O τ A) (M : xm_T) (a w : Nat) (hτ : τ a = 1) {nn TT GG BB : Nat} (h : zi a M nn TT GG BB) (hw : w < 6) : Met l yX2_callAt wsX2_callAt ({ frames := 2, cells := 0, slots := 0, locals := 60 }) (va_Pc [.ref a, .ref (a + 5 * w + 4)] (xS_t G g t0 τ A M)) (va_Qv (fun M' => M' = zm_ca a w M) (fun M' t => xw_D G g τ M' t.heap) A) 0 0 A := by
  refine Met.ofW (cc := cX2_callAt) (maxL := 5) (ret := none) (by decide) rfl ?_
  intro p e s m args below meth c s₁ B hml hv
  obtain ⟨rfl, hW, hK, hst, hnw⟩ := hv
  have hx := B.exec
  have hb := B.bytes
  have hr := B.returns
  have hts := atoms_spec (ws := wsX2_callAt) B.pre
  have hown : s.vm.findClass RX2 = some m.cls := findClass_of_methodNamed B.named
  have hlocks := B.notSynchronized
  have hS : va_S A s.heap s.heap [] := va_S.rf
  have inX4 : ∀ w ∈ u_ws RX4 TX4 12, w ∈ wsX2_callAt := by decide +kernel
  have inX5 : ∀ w ∈ u_ws RX5 TX5 7, w ∈ wsX2_callAt := by decide +kernel
  have hl := lv_entry ([.ref a, .ref (a + 5 * w + 4)]) (n := 5) (Nat.le_of_ble_eq_true rfl)
  rw [lg_entry_eq]
  generalize (lg_sl ([.ref a, .ref (a + 5 * w + 4)]) ++ List.replicate (5 - (lg_sl ([.ref a, .ref (a + 5 * w + 4)])).length) Slot.unset).toArray = ls at hl ⊢
  have hl : lv_has ls 5 [(0, .ref a), (1, .ref (a + 5 * w + 4))] := hl
  obtain ⟨N, hN⟩ : ∃ N, N = (M (a + 5 * w + 4) 1 - M (a + 5 * w + 7) 1).toNatClampNeg := ⟨_, rfl⟩
  refine lv_aload_n hx hb dX2_callAt_0 rfl (lv_at hl 1 rfl) ?_
  refine xg_get (κ := 5) (ci := 5) (C := RX5) (T := TX5) (N := 7) hx hb hts inX5 hown hK hW (O.w hτ hw) (by decide) rfl rfl 1 (by decide) (hts (.fieldLink RX2 180 "HalfTickets$Window" "clerks" "I") (List.mem_of_getElem? (i := 1) (by decide +kernel))) (fun _ h9 => h9) rfl dX2_callAt_1 ?_
  refine lv_aload_n hx hb dX2_callAt_4 rfl (lv_at hl 1 rfl) ?_
  refine xg_get (κ := 5) (ci := 5) (C := RX5) (T := TX5) (N := 7) hx hb hts inX5 hown hK hW (O.w hτ hw) (by decide) rfl rfl 6 (by decide) (hts (.fieldLink RX2 150 "HalfTickets$Window" "serving" "LHalfTickets$Line;") (List.mem_of_getElem? (i := 2) (by decide +kernel))) (fun _ h9 => h9) rfl dX2_callAt_5 ?_
  refine xc_i (xr_V (As := []) (rest := [.int (M (a + 5 * w + 4) 1)]) (κ := 6) ⟨hx, hb, hml, hown, hts⟩ (c_X1_length l O M (a + 5 * w + 7) (O.r (O.w hτ hw))) (cwV 0 hts gX2_callAt_X1_length rfl rfl rfl (by decide +kernel) ⟨Nat.le_of_ble_eq_true rfl, Nat.le_of_ble_eq_true rfl⟩) hK hst hnw hS hW (O.r (O.w hτ hw)) (by decide) rfl rfl rfl hl.1 rfl (Nat.le_of_ble_eq_true rfl) dX2_callAt_8 ⟨Nat.zero_le _, Nat.zero_le _⟩) hS (fun r_3 M_1 H locs hq_2 hW hS => ?_)
  obtain ⟨hq_2a, hq_2b⟩ := hq_2
  rw [hq_2b] at hW
  rw [hq_2a]
  refine lv_isub hx hb dX2_callAt_11 ?_
  refine lv_istore_n (lv' := [(2, .int ((M (a + 5 * w + 4) 1) - (M (a + 5 * w + 7) 1))), (0, .ref a), (1, .ref (a + 5 * w + 4))]) hx hb dX2_callAt_12 rfl hl (by decide) rfl (fun ls hl => ?_)
  refine lv_iconst (v := (nI 0)) hx hb dX2_callAt_13 (by decide) ?_
  refine lv_istore_n (lv' := [(3, .int (nI 0)), (2, .int ((M (a + 5 * w + 4) 1) - (M (a + 5 * w + 7) 1))), (0, .ref a), (1, .ref (a + 5 * w + 4))]) hx hb dX2_callAt_14 rfl hl (by decide) rfl (fun ls hl => ?_)
  refine xl_up (σ := xm_T) N (fun kk zz H locs ls => xw_D G g τ zz H ∧ va_S A s.heap H locs ∧ lv_has ls 5 [(3, .int (nI kk)), (2, .int ((M (a + 5 * w + 4) 1) - (M (a + 5 * w + 7) 1))), (0, .ref a), (1, .ref (a + 5 * w + 4))] ∧ zi a zz nn TT GG BB ∧ zm_cl a w (N - kk) zz = zm_cl a w N M) (fun z15 H locs ls hI => ?_) (fun k15 z15 H locs ls hk15 hI ih15 => ?_) (k0 := 0) (z0 := M) (Nat.zero_le _) ⟨hW, hS, lv_sub hl [0, 1, 2, 3] rfl, ⟨h, rfl⟩⟩
  · obtain ⟨hW, hS, hl, hE15⟩ := hI
    refine lv_iload_n hx hb dX2_callAt_15 rfl (lv_at hl 0 rfl) ?_
    refine lv_iload_n hx hb dX2_callAt_16 rfl (lv_at hl 1 rfl) ?_
    refine lv_icmp_ge (tgt := 90) hx hb dX2_callAt_17 (by decide) (fun c_4 => ?_) (fun c_4 => ?_)
    · exact W.vret hx hb hr (fun t ht hWm => ⟨⟨z15, rfl, (by obtain ⟨-, gc⟩ := hE15; rw [Nat.sub_self] at gc; unfold zm_ca; rw [← hN, ← gc]; rfl), xw_end ht hW⟩, hS.F ht⟩) hS.2.2 dX2_callAt_90
    · exact absurd (by rw [hN]; exact xd_2 _) c_4
  · obtain ⟨hW, hS, hl, hE15⟩ := hI
    obtain ⟨gz, gc⟩ := hE15
    obtain ⟨L, hL24, hL⟩ := zi_Lq gz hw
    have hcl : zm_cl a w (N - k15) z15 = if zm_c0 a w z15 then z15 else zm_cl a w (N - (k15 + 1)) (zm_c2 a w (zm_cp a w z15) z15) := by rw [show N - k15 = N - (k15 + 1) + 1 by omega]; rfl
    refine lv_iload_n hx hb dX2_callAt_15 rfl (lv_at hl 0 rfl) ?_
    refine lv_iload_n hx hb dX2_callAt_16 rfl (lv_at hl 1 rfl) ?_
    refine lv_icmp_ge (tgt := 90) hx hb dX2_callAt_17 (by decide) (fun c_5 => ?_) (fun c_5 => ?_)
    · exact absurd c_5 (xd_1 (by rw [← hN]; exact hk15))
    · refine lv_aload_n hx hb dX2_callAt_20 rfl (lv_at hl 2 rfl) ?_
      refine lv_aload_n hx hb dX2_callAt_21 rfl (lv_at hl 3 rfl) ?_
      refine xg_get (κ := 5) (ci := 5) (C := RX5) (T := TX5) (N := 7) hx hb hts inX5 hown hK hW (O.w hτ hw) (by decide) rfl rfl 5 (by decide) (hts (.fieldLink RX2 92 "HalfTickets$Window" "queue" "LHalfTickets$Line;") (List.mem_of_getElem? (i := 3) (by decide +kernel))) (fun _ h9 => h9) rfl dX2_callAt_22 ?_
      refine lv_iconst (v := (nI 0)) hx hb dX2_callAt_25 (by decide) ?_
      refine xc_i (xr_V (As := [.int (nI 0)]) (rest := [.ref a]) (κ := 6) ⟨hx, hb, hml, hown, hts⟩ (c_X1_numberAt l O z15 (a + 5 * w + 5) (O.q (O.w hτ hw)) (nI 0) hL24 hL) (cwV 1 hts gX2_callAt_X1_numberAt rfl rfl rfl (by decide +kernel) ⟨Nat.le_of_ble_eq_true rfl, Nat.le_of_ble_eq_true rfl⟩) hK hst hnw hS hW (O.q (O.w hτ hw)) (by decide) rfl rfl rfl hl.1 rfl (Nat.le_of_ble_eq_true rfl) dX2_callAt_26 ⟨Nat.zero_le _, Nat.zero_le _⟩) hS (fun r_8 M_6 H locs hq_7 hW hS => ?_)
      obtain ⟨hq_7a, hq_7b⟩ := hq_7
      rw [hq_7b] at hW
      rw [hq_7a]
      rcases Nat.eq_zero_or_pos L with hL0 | hL0
      · rw [xf_at_e (by rw [hL, hL0])]
        refine xc_q (xr_V (As := [.int (-6)]) (rest := []) (κ := 1) ⟨hx, hb, hml, hown, hts⟩ (c_X2_personAt l O z15 a hτ (-6)) (cwV 1 hts gX2_callAt_X2_personAt rfl rfl rfl (by decide +kernel) ⟨Nat.le_of_ble_eq_true rfl, Nat.le_of_ble_eq_true rfl⟩) hK hst hnw hS hW hτ (by decide) rfl rfl rfl hl.1 rfl (Nat.le_of_ble_eq_true rfl) dX2_callAt_29 ⟨Nat.zero_le _, Nat.zero_le _⟩) hS (fun r_11 M_9 H locs hq_10 hW hS => ?_)
        obtain ⟨hq_10a, hq_10b⟩ := hq_10
        rw [hq_10b] at hW
        rw [hq_10a]
        rw [xf_per_6]
        refine W.eq (g2 := F0 m 32 ls [.null]) rfl ?_
        refine lv_astoreN (lv' := [(4, .null), (3, .int (nI k15)), (2, .int ((M (a + 5 * w + 4) 1) - (M (a + 5 * w + 7) 1))), (0, .ref a), (1, .ref (a + 5 * w + 4))]) hx hb dX2_callAt_32 hl (by decide) rfl (fun ls hl => ?_)
        refine lv_aloadN hx hb dX2_callAt_34 (lv_at hl 0 rfl) ?_
        refine lv_ifnullN (tgt := 47) hx hb dX2_callAt_36 (by decide) ?_
        exact W.vret hx hb hr (fun t ht hWm => ⟨⟨z15, rfl, (by unfold zm_ca; rw [← hN, ← gc, zm_cl_stop (Or.inl (by rw [hL, hL0]))]), xw_end ht hW⟩, hS.F ht⟩) hS.2.2 dX2_callAt_47
      · have hc0 : ¬ z15 (a + 5 * w + 5) 1 = nI 0 := by rw [hL]; intro e9; have := zI_inj (by omega) (by omega) e9; omega
        obtain ⟨k, hcp, hkn, e6, e0, ⟨L2, hL2, hR⟩, hci⟩ := zi_hn gz hw hc0
        have hk : k < 24 := by have := gz.n; omega
        rw [xf_at_n hL hL0 hL24 (v := nI k) e6]
        refine xc_q (xr_V (As := [.int (nI k)]) (rest := []) (κ := 1) ⟨hx, hb, hml, hown, hts⟩ (c_X2_personAt l O z15 a hτ (nI k)) (cwV 1 hts gX2_callAt_X2_personAt rfl rfl rfl (by decide +kernel) ⟨Nat.le_of_ble_eq_true rfl, Nat.le_of_ble_eq_true rfl⟩) hK hst hnw hS hW hτ (by decide) rfl rfl rfl hl.1 rfl (Nat.le_of_ble_eq_true rfl) dX2_callAt_29 ⟨Nat.zero_le _, Nat.zero_le _⟩) hS (fun r_14 M_12 H locs hq_13 hW hS => ?_)
        obtain ⟨hq_13a, hq_13b⟩ := hq_13
        rw [hq_13b] at hW
        rw [hq_13a]
        rw [xf_per_s gz.1.2.1 gz.n hkn]
        refine W.eq (g2 := F0 m 32 ls [.ref (a + 2 * k + 34)]) rfl ?_
        refine lv_astore (lv' := [(4, .ref (a + 2 * k + 34)), (3, .int (nI k15)), (2, .int ((M (a + 5 * w + 4) 1) - (M (a + 5 * w + 7) 1))), (0, .ref a), (1, .ref (a + 5 * w + 4))]) hx hb dX2_callAt_32 hl (by decide) rfl (fun ls hl => ?_)
        refine lv_aload hx hb dX2_callAt_34 (lv_at hl 0 rfl) ?_
        refine lv_ifnull hx hb dX2_callAt_36 ?_
        refine lv_aload hx hb dX2_callAt_39 (lv_at hl 0 rfl) ?_
        refine xg_get (κ := 8) (ci := 4) (C := RX4) (T := TX4) (N := 12) hx hb hts inX4 hown hK hW (O.p hτ hk) (by decide) rfl rfl 11 (by decide) (hts (.fieldLink RX2 138 "HalfTickets$Person" "cameInThisTick" "Z") (List.mem_of_getElem? (i := 4) (by decide +kernel))) (fun _ h9 => h9) rfl dX2_callAt_41 ?_
        refine lv_if_eq (tgt := 48) hx hb dX2_callAt_44 (by decide) (fun c_15 => ?_) (fun c_15 => ?_)
        · refine lv_aload_n hx hb dX2_callAt_48 rfl (lv_at hl 4 rfl) ?_
          refine xg_get (κ := 5) (ci := 5) (C := RX5) (T := TX5) (N := 7) hx hb hts inX5 hown hK hW (O.w hτ hw) (by decide) rfl rfl 5 (by decide) (hts (.fieldLink RX2 92 "HalfTickets$Window" "queue" "LHalfTickets$Line;") (List.mem_of_getElem? (i := 3) (by decide +kernel))) (fun _ h9 => h9) rfl dX2_callAt_49 ?_
          refine lv_aload hx hb dX2_callAt_52 (lv_at hl 0 rfl) ?_
          refine xg_get (κ := 8) (ci := 4) (C := RX4) (T := TX4) (N := 12) hx hb hts inX4 hown hK hW (O.p hτ hk) (by decide) rfl rfl 0 (by decide) (hts (.fieldLink RX2 96 "HalfTickets$Person" "number" "I") (List.mem_of_getElem? (i := 5) (by decide +kernel))) (fun _ h9 => h9) rfl dX2_callAt_54 ?_
          refine xc_v (xr_V (As := [.int (z15 (a + 2 * k + 34) 0)]) (rest := []) (κ := 6) ⟨hx, hb, hml, hown, hts⟩ (c_X1_remove l O z15 (a + 5 * w + 5) (O.q (O.w hτ hw)) hL24 hL (z15 (a + 2 * k + 34) 0)) (cwV 1 hts gX2_callAt_X1_remove rfl rfl rfl (by decide +kernel) ⟨Nat.le_of_ble_eq_true rfl, Nat.le_of_ble_eq_true rfl⟩) hK hst hnw hS hW (O.q (O.w hτ hw)) (by decide) rfl rfl rfl hl.1 rfl (Nat.le_of_ble_eq_true rfl) dX2_callAt_57 ⟨Nat.zero_le _, Nat.zero_le _⟩) hS (fun M_16 H locs hq_17 hW hS => ?_)
          have hR1 : M_16 (a + 5 * w + 7) 1 = nI L2 := by rw [hq_17, zl_rv_o (by omega) (by omega)]; exact hR
          refine lv_aload_n hx hb dX2_callAt_60 rfl (lv_at hl 4 rfl) ?_
          refine xg_get (κ := 5) (ci := 5) (C := RX5) (T := TX5) (N := 7) hx hb hts inX5 hown hK hW (O.w hτ hw) (by decide) rfl rfl 6 (by decide) (hts (.fieldLink RX2 150 "HalfTickets$Window" "serving" "LHalfTickets$Line;") (List.mem_of_getElem? (i := 2) (by decide +kernel))) (fun _ h9 => h9) rfl dX2_callAt_61 ?_
          refine lv_aload hx hb dX2_callAt_64 (lv_at hl 0 rfl) ?_
          refine xg_get (κ := 8) (ci := 4) (C := RX4) (T := TX4) (N := 12) hx hb hts inX4 hown hK hW (O.p hτ hk) (by decide) rfl rfl 0 (by decide) (hts (.fieldLink RX2 96 "HalfTickets$Person" "number" "I") (List.mem_of_getElem? (i := 5) (by decide +kernel))) (fun _ h9 => h9) rfl dX2_callAt_66 ?_
          refine xc_v (xr_V (As := [.int (M_16 (a + 2 * k + 34) 0)]) (rest := []) (κ := 6) ⟨hx, hb, hml, hown, hts⟩ (c_X1_append l O M_16 (a + 5 * w + 7) (O.r (O.w hτ hw)) hL2 hR1 (M_16 (a + 2 * k + 34) 0)) (cwV 1 hts gX2_callAt_X1_append rfl rfl rfl (by decide +kernel) ⟨Nat.le_of_ble_eq_true rfl, Nat.le_of_ble_eq_true rfl⟩) hK hst hnw hS hW (O.r (O.w hτ hw)) (by decide) rfl rfl rfl hl.1 rfl (Nat.le_of_ble_eq_true rfl) dX2_callAt_69 ⟨Nat.zero_le _, Nat.zero_le _⟩) hS (fun M_19 H locs hq_20 hW hS => ?_)
          refine lv_aload hx hb dX2_callAt_72 (lv_at hl 0 rfl) ?_
          refine lv_iconst (v := (nI 1)) hx hb dX2_callAt_74 (by decide) ?_
          refine xg_put (κ := 8) (ci := 4) (C := RX4) (T := TX4) (N := 12) hx hb hts inX4 tyX4 tyX4_ok nmX4 hown hK O hW hS (O.p hτ hk) (by decide) rfl rfl 3 (by decide) (v := (nI 1)) rfl (xw_okp hW (O.p hτ hk) (by decide)) (hts (.fieldLink RX2 69 "HalfTickets$Person" "where" "I") (List.mem_of_getElem? (i := 6) (by decide +kernel))) (fun _ h9 => h9) rfl (ty := .int) (by decide +kernel) rfl rfl (Nat.le_of_ble_eq_true rfl) dX2_callAt_75 (fun H locs hW hS => ?_)
          obtain ⟨M_22, eM_22⟩ : ∃ M9, M9 = xu_p M_19 (a + 2 * k + 34) 3 (nI 1) := ⟨_, rfl⟩
          rw [← eM_22] at hW
          refine lv_aload hx hb dX2_callAt_78 (lv_at hl 0 rfl) ?_
          refine lv_iconst (v := (nI 0)) hx hb dX2_callAt_80 (by decide) ?_
          refine xg_put (κ := 8) (ci := 4) (C := RX4) (T := TX4) (N := 12) hx hb hts inX4 tyX4 tyX4_ok nmX4 hown hK O hW hS (O.p hτ hk) (by decide) rfl rfl 6 (by decide) (v := (nI 0)) rfl (xw_okp hW (O.p hτ hk) (by decide)) (hts (.fieldLink RX2 163 "HalfTickets$Person" "servedFor" "I") (List.mem_of_getElem? (i := 7) (by decide +kernel))) (fun _ h9 => h9) rfl (ty := .int) (by decide +kernel) rfl rfl (Nat.le_of_ble_eq_true rfl) dX2_callAt_81 (fun H locs hW hS => ?_)
          obtain ⟨M_23, eM_23⟩ : ∃ M9, M9 = xu_p M_22 (a + 2 * k + 34) 6 (nI 0) := ⟨_, rfl⟩
          rw [← eM_23] at hW
          refine lv_iinc (v := (nI (k15 + 1))) (lv' := [(3, .int (nI (k15 + 1))), (4, .ref (a + 2 * k + 34)), (2, .int ((M (a + 5 * w + 4) 1) - (M (a + 5 * w + 7) 1))), (0, .ref a), (1, .ref (a + 5 * w + 4))]) hx hb dX2_callAt_84 hl (k := 1) rfl ((nI_1 k15)) (by decide) rfl (fun ls hl => ?_)
          refine lv_goto (tgt := 15) hx hb dX2_callAt_87 (by decide) ?_
          have e2 : M_23 = zm_c2 a w k z15 := by rw [eM_23, eM_22, hq_20, hq_17, show zl_rv (a + 5 * w + 5) (z15 (a + 2 * k + 34) 0) z15 (a + 2 * k + 34) = z15 (a + 2 * k + 34) from zl_rv_o (by omega) (by omega)]; rfl
          have hst : ¬ zm_c0 a w z15 := fun z => by unfold zm_c0 at z; rw [hcp] at z; rcases z with z | z | z; exact hc0 z; exact z hk; exact z c_15
          exact ih15 M_23 _ _ _ ⟨hW, hS, lv_sub hl [0, 2, 3, 4] rfl, ⟨(by rw [e2]; exact hci), (by rw [← gc, hcl, if_neg hst, hcp, e2])⟩⟩
        · exact W.vret hx hb hr (fun t ht hWm => ⟨⟨z15, rfl, (by unfold zm_ca; rw [← hN, ← gc, zm_cl_stop (Or.inr (Or.inr (by rw [hcp]; exact c_15)))]), xw_end ht hW⟩, hS.F ht⟩) hS.2.2 dX2_callAt_47
