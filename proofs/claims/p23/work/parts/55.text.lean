/-! THE PAD ON A TEXT -/

set_option maxHeartbeats 4000000 in
set_option maxRecDepth 100000 in
/-- Pad.isWindow(v) -/
theorem c_X3_isWindow (l : Launch) {G : va_G} {g : Nat → ClassId} {t0 τ : Nat → Nat} {A : Nat → Prop} (O : xk_O τ A) (M : xm_T) (v : Int32) : Met l yX3_isWindow wsX3_isWindow ({ frames := 0, cells := 0, slots := 0, locals := 0 }) (va_Pc [.int v] (xS_t G g t0 τ A M)) (va_Qi (fun r M' => r = zc_w v ∧ M' = M) (fun M' t => xw_D G g τ M' t.heap) A) 0 0 A := by
  refine Met.ofW (cc := cX3_isWindow) (maxL := 1) (ret := (some .boolean)) (by decide) rfl ?_
  intro p e s m args below meth c s₁ B hml hv
  obtain ⟨rfl, hW, hK, hst, hnw⟩ := hv
  have hx := B.exec
  have hb := B.bytes
  have hr := B.returns
  have hts := atoms_spec (ws := wsX3_isWindow) B.pre
  have hown : s.vm.findClass RX3 = some m.cls := findClass_of_methodNamed B.named
  have hlocks := B.notSynchronized
  have hS : va_S A s.heap s.heap [] := va_S.rf
  have hl := lv_entry ([.int v]) (n := 1) (Nat.le_of_ble_eq_true rfl)
  rw [lg_entry_eq]
  generalize (lg_sl ([.int v]) ++ List.replicate (1 - (lg_sl ([.int v])).length) Slot.unset).toArray = ls at hl ⊢
  have hl : lv_has ls 1 [(0, .int v)] := hl
  refine lv_iload_n hx hb dX3_isWindow_0 rfl (lv_at hl 0 rfl) ?_
  refine lv_bipush (v := (nI 48)) hx hb dX3_isWindow_1 (by decide) ?_
  refine lv_icmp_lt (tgt := 16) hx hb dX3_isWindow_3 (by decide) (fun c_1 => ?_) (fun c_1 => ?_)
  · refine lv_iconst (v := (nI 0)) hx hb dX3_isWindow_16 (by decide) ?_
    exact W.zret (v := (nI 0)) hx hb hr rfl (fun t ht hWm => ⟨⟨(nI 0), M, rfl, ⟨(by unfold zc_w; rw [if_pos c_1]), rfl⟩, xw_end ht hW⟩, hS.F ht⟩) hS.2.2 dX3_isWindow_17
  · refine lv_iload_n hx hb dX3_isWindow_6 rfl (lv_at hl 0 rfl) ?_
    refine lv_bipush (v := (nI 54)) hx hb dX3_isWindow_7 (by decide) ?_
    refine lv_icmp_ge (tgt := 16) hx hb dX3_isWindow_9 (by decide) (fun c_2 => ?_) (fun c_2 => ?_)
    · refine lv_iconst (v := (nI 0)) hx hb dX3_isWindow_16 (by decide) ?_
      exact W.zret (v := (nI 0)) hx hb hr rfl (fun t ht hWm => ⟨⟨(nI 0), M, rfl, ⟨(by unfold zc_w; rw [if_neg c_1, if_pos c_2]), rfl⟩, xw_end ht hW⟩, hS.F ht⟩) hS.2.2 dX3_isWindow_17
    · refine lv_iconst (v := (nI 1)) hx hb dX3_isWindow_12 (by decide) ?_
      refine lv_goto (tgt := 17) hx hb dX3_isWindow_13 (by decide) ?_
      exact W.zret (v := (nI 1)) hx hb hr rfl (fun t ht hWm => ⟨⟨(nI 1), M, rfl, ⟨(by unfold zc_w; rw [if_neg c_1, if_neg c_2]), rfl⟩, xw_end ht hW⟩, hS.F ht⟩) hS.2.2 dX3_isWindow_17

set_option maxHeartbeats 4000000 in
set_option maxRecDepth 100000 in
/-- Pad.repeatsAt(k): it does not repeat -/
theorem c_X3_repeatsAt (l : Launch) {G : va_G} {g : Nat → ClassId} {t0 τ : Nat → Nat} {A : Nat → Prop} (O : xk_O τ A) (M : xm_T) (d : Nat) (hτ : τ d = 14) {L k : Nat} (hL : L ≤ 60) (hM : M d 1 = nI L) (hk : k < L) (hr0 : k = 0 ∨ M (d + 1) (k - 1) ≠ M (d + 1) k) : Met l yX3_repeatsAt wsX3_repeatsAt ({ frames := 0, cells := 0, slots := 0, locals := 0 }) (va_Pc [.ref d, .int (nI k)] (xS_t G g t0 τ A M)) (va_Qi (fun r M' => r = nI 0 ∧ M' = M) (fun M' t => xw_D G g τ M' t.heap) A) 0 0 A := by
  refine Met.ofW (cc := cX3_repeatsAt) (maxL := 2) (ret := (some .boolean)) (by decide) rfl ?_
  intro p e s m args below meth c s₁ B hml hv
  obtain ⟨rfl, hW, hK, hst, hnw⟩ := hv
  have hx := B.exec
  have hb := B.bytes
  have hr := B.returns
  have hts := atoms_spec (ws := wsX3_repeatsAt) B.pre
  have hown : s.vm.findClass RX3 = some m.cls := findClass_of_methodNamed B.named
  have hlocks := B.notSynchronized
  have hS : va_S A s.heap s.heap [] := va_S.rf
  have inX3 : ∀ w ∈ u_ws RX3 TX3 2, w ∈ wsX3_repeatsAt := by decide +kernel
  have hl := lv_entry ([.ref d, .int (nI k)]) (n := 2) (Nat.le_of_ble_eq_true rfl)
  rw [lg_entry_eq]
  generalize (lg_sl ([.ref d, .int (nI k)]) ++ List.replicate (2 - (lg_sl ([.ref d, .int (nI k)])).length) Slot.unset).toArray = ls at hl ⊢
  have hl : lv_has ls 2 [(0, .ref d), (1, .int (nI k))] := hl
  refine lv_iload_n hx hb dX3_repeatsAt_0 rfl (lv_at hl 1 rfl) ?_
  refine lv_if_le (tgt := 33) hx hb dX3_repeatsAt_1 (by decide) (fun c_1 => ?_) (fun c_1 => ?_)
  · refine lv_iconst (v := (nI 0)) hx hb dX3_repeatsAt_33 (by decide) ?_
    exact W.zret (v := (nI 0)) hx hb hr rfl (fun t ht hWm => ⟨⟨(nI 0), M, rfl, ⟨rfl, rfl⟩, xw_end ht hW⟩, hS.F ht⟩) hS.2.2 dX3_repeatsAt_34
  · have hk0 : 0 < k := by rcases Nat.eq_zero_or_pos k with z | z; exact absurd (by rw [z, nI_0]; exact Int32.le_refl _) c_1; exact z
    refine lv_iload_n hx hb dX3_repeatsAt_4 rfl (lv_at hl 1 rfl) ?_
    refine lv_aload_n hx hb dX3_repeatsAt_5 rfl (lv_at hl 0 rfl) ?_
    refine xg_get (κ := 14) (ci := 3) (C := RX3) (T := TX3) (N := 2) hx hb hts inX3 hown hK hW hτ (by decide) rfl rfl 1 (by decide) (hts (.fieldLink RX3 21 "HalfTickets$Pad" "length" "I") (List.mem_of_getElem? (i := 1) (by decide +kernel))) (fun _ h9 => h9) rfl dX3_repeatsAt_6 ?_
    refine lv_icmp_ge (tgt := 33) hx hb dX3_repeatsAt_9 (by decide) (fun c_2 => ?_) (fun c_2 => ?_)
    · exact absurd c_2 (by rw [hM]; exact nI_ge hk (by omega))
    · refine lv_aload_n hx hb dX3_repeatsAt_12 rfl (lv_at hl 0 rfl) ?_
      refine xg_get (κ := 14) (ci := 3) (C := RX3) (T := TX3) (N := 2) hx hb hts inX3 hown hK hW hτ (by decide) rfl rfl 0 (by decide) (hts (.fieldLink RX3 9 "HalfTickets$Pad" "text" "[C") (List.mem_of_getElem? (i := 2) (by decide +kernel))) (fun _ h9 => h9) rfl dX3_repeatsAt_13 ?_
      refine lv_iload_n hx hb dX3_repeatsAt_16 rfl (lv_at hl 1 rfl) ?_
      refine lv_iconst (v := (nI 1)) hx hb dX3_repeatsAt_17 (by decide) ?_
      refine lv_isub hx hb dX3_repeatsAt_18 ?_
      refine xg_cald hx hb hK hW (O.d hτ) (k - 1) (by have e := nI_pred (k - 1); rw [show k - 1 + 1 = k by omega] at e; exact e) (by omega) dX3_repeatsAt_19 ?_
      refine lv_aload_n hx hb dX3_repeatsAt_20 rfl (lv_at hl 0 rfl) ?_
      refine xg_get (κ := 14) (ci := 3) (C := RX3) (T := TX3) (N := 2) hx hb hts inX3 hown hK hW hτ (by decide) rfl rfl 0 (by decide) (hts (.fieldLink RX3 9 "HalfTickets$Pad" "text" "[C") (List.mem_of_getElem? (i := 2) (by decide +kernel))) (fun _ h9 => h9) rfl dX3_repeatsAt_21 ?_
      refine lv_iload_n hx hb dX3_repeatsAt_24 rfl (lv_at hl 1 rfl) ?_
      refine xg_cald hx hb hK hW (O.d hτ) k rfl (by omega) dX3_repeatsAt_25 ?_
      refine lv_icmp_ne (tgt := 33) hx hb dX3_repeatsAt_26 (by decide) (fun c_3 => ?_) (fun c_3 => ?_)
      · refine lv_iconst (v := (nI 0)) hx hb dX3_repeatsAt_33 (by decide) ?_
        exact W.zret (v := (nI 0)) hx hb hr rfl (fun t ht hWm => ⟨⟨(nI 0), M, rfl, ⟨rfl, rfl⟩, xw_end ht hW⟩, hS.F ht⟩) hS.2.2 dX3_repeatsAt_34
      · exact absurd c_3 (hr0.resolve_left (by omega))

set_option maxHeartbeats 4000000 in
set_option maxRecDepth 100000 in
/-- Pad.firstFault() of a text -/
theorem c_X3_firstFault (l : Launch) {G : va_G} {g : Nat → ClassId} {t0 τ : Nat → Nat} {A : Nat → Prop} (O : xk_O τ A) (M : xm_T) (d : Nat) (hτ : τ d = 14) {L NN : Nat} {em : Nat → Nat} {ee : Nat → Nat → Nat} (hL : L ≤ 60) (hM : M d 1 = nI L) (hz : zt (M (d + 1)) L em ee) (hv : zt_v NN em ee) (hN : L + 1 = zt_s em NN) : Met l yX3_firstFault wsX3_firstFault ({ frames := 1, cells := 0, slots := 0, locals := 30 }) (va_Pc [.ref d] (xS_t G g t0 τ A M)) (va_Qi (fun r M' => r = -6 ∧ M' = M) (fun M' t => xw_D G g τ M' t.heap) A) 0 0 A := by
  refine Met.ofW (cc := cX3_firstFault) (maxL := 4) (ret := (some .int)) (by decide) rfl ?_
  intro p e s m args below meth c s₁ B hml hv
  obtain ⟨rfl, hW, hK, hst, hnw⟩ := hv
  have hx := B.exec
  have hb := B.bytes
  have hr := B.returns
  have hts := atoms_spec (ws := wsX3_firstFault) B.pre
  have hown : s.vm.findClass RX3 = some m.cls := findClass_of_methodNamed B.named
  have hlocks := B.notSynchronized
  have hS : va_S A s.heap s.heap [] := va_S.rf
  have inX3 : ∀ w ∈ u_ws RX3 TX3 2, w ∈ wsX3_firstFault := by decide +kernel
  have hl := lv_entry ([.ref d]) (n := 4) (Nat.le_of_ble_eq_true rfl)
  rw [lg_entry_eq]
  generalize (lg_sl ([.ref d]) ++ List.replicate (4 - (lg_sl ([.ref d])).length) Slot.unset).toArray = ls at hl ⊢
  have hl : lv_has ls 4 [(0, .ref d)] := hl
  have hNp : 0 < NN := by rcases Nat.eq_zero_or_pos NN with q | q; exact absurd hN (by rw [q]; show ¬ L + 1 = 0; omega); exact q
  refine lv_iconst (v := (nI 0)) hx hb dX3_firstFault_0 (by decide) ?_
  refine lv_istore_n (lv' := [(1, .int (nI 0)), (0, .ref d)]) hx hb dX3_firstFault_1 rfl hl (by decide) rfl (fun ls hl => ?_)
  refine lv_iconst (v := (nI 0)) hx hb dX3_firstFault_2 (by decide) ?_
  refine lv_istore_n (lv' := [(2, .int (nI 0)), (1, .int (nI 0)), (0, .ref d)]) hx hb dX3_firstFault_3 rfl hl (by decide) rfl (fun ls hl => ?_)
  refine xl_up (σ := (Nat × Nat)) L (fun kk zz H locs ls => xw_D G g τ M H ∧ va_S A s.heap H locs ∧ lv_has ls 4 [(2, .int (nI kk)), (1, .int (nI zz.2)), (0, .ref d)] ∧ kk = zt_s em zz.1 + zz.2 ∧ zz.1 < NN ∧ zz.2 ≤ em zz.1) (fun z4 H locs ls hI => ?_) (fun k4 z4 H locs ls hk4 hI ih4 => ?_) (k0 := 0) (z0 := (0, 0)) (Nat.zero_le _) ⟨hW, hS, lv_sub hl [0, 1, 2] rfl, ⟨rfl, hNp, Nat.zero_le _⟩⟩
  · obtain ⟨hW, hS, hl, hE4⟩ := hI
    refine lv_iload_n hx hb dX3_firstFault_4 rfl (lv_at hl 0 rfl) ?_
    refine lv_aload_n hx hb dX3_firstFault_5 rfl (lv_at hl 2 rfl) ?_
    refine xg_get (κ := 14) (ci := 3) (C := RX3) (T := TX3) (N := 2) hx hb hts inX3 hown hK hW hτ (by decide) rfl rfl 1 (by decide) (hts (.fieldLink RX3 21 "HalfTickets$Pad" "length" "I") (List.mem_of_getElem? (i := 1) (by decide +kernel))) (fun _ h9 => h9) rfl dX3_firstFault_6 ?_
    refine lv_icmp_ge (tgt := 69) hx hb dX3_firstFault_9 (by decide) (fun c_1 => ?_) (fun c_1 => ?_)
    · refine lv_iload_n hx hb dX3_firstFault_69 rfl (lv_at hl 1 rfl) ?_
      refine lv_if_ne (tgt := 80) hx hb dX3_firstFault_70 (by decide) (fun c_2 => ?_) (fun c_2 => ?_)
      · refine lv_bipush (v := (-6)) hx hb dX3_firstFault_80 (by decide) ?_
        exact W.iret (v := (-6)) hx hb hr (fun t ht hWm => ⟨⟨(-6), M, rfl, ⟨rfl, rfl⟩, xw_end ht hW⟩, hS.F ht⟩) hS.2.2 dX3_firstFault_82
      · obtain ⟨ei, ek, ej⟩ := hE4
        have g1 := zt_s_le (m := em) ek
        have g2 := (hv z4.1 ek).1
        exact absurd c_2 (nI_ne0 (by omega) (by have := (hv z4.1 ek).2.1; omega))
    · exact absurd (by rw [hM]; exact nI_le (Nat.le_refl _) (by omega)) c_1
  · obtain ⟨hW, hS, hl, hE4⟩ := hI
    refine lv_iload_n hx hb dX3_firstFault_4 rfl (lv_at hl 0 rfl) ?_
    refine lv_aload_n hx hb dX3_firstFault_5 rfl (lv_at hl 2 rfl) ?_
    refine xg_get (κ := 14) (ci := 3) (C := RX3) (T := TX3) (N := 2) hx hb hts inX3 hown hK hW hτ (by decide) rfl rfl 1 (by decide) (hts (.fieldLink RX3 21 "HalfTickets$Pad" "length" "I") (List.mem_of_getElem? (i := 1) (by decide +kernel))) (fun _ h9 => h9) rfl dX3_firstFault_6 ?_
    refine lv_icmp_ge (tgt := 69) hx hb dX3_firstFault_9 (by decide) (fun c_3 => ?_) (fun c_3 => ?_)
    · exact absurd c_3 (by rw [hM]; exact nI_ge hk4 (by omega))
    · obtain ⟨ei, ek, ej⟩ := hE4
      obtain ⟨v1, v2, v3, v4⟩ := hv z4.1 ek
      rcases Nat.lt_or_ge z4.2 (em z4.1) with hj | hj
      · have h6 : ee z4.1 z4.2 < 6 := v3 _ hj
        have hf : M (d + 1) k4 = nI (48 + ee z4.1 z4.2) := by rw [ei]; exact hz.1 _ _ hj (by omega)
        refine lv_aload_n hx hb dX3_firstFault_12 rfl (lv_at hl 2 rfl) ?_
        refine xg_get (κ := 14) (ci := 3) (C := RX3) (T := TX3) (N := 2) hx hb hts inX3 hown hK hW hτ (by decide) rfl rfl 0 (by decide) (hts (.fieldLink RX3 9 "HalfTickets$Pad" "text" "[C") (List.mem_of_getElem? (i := 2) (by decide +kernel))) (fun _ h9 => h9) rfl dX3_firstFault_13 ?_
        refine lv_iload_n hx hb dX3_firstFault_16 rfl (lv_at hl 0 rfl) ?_
        refine xg_cald hx hb hK hW (O.d hτ) k4 rfl (by omega) dX3_firstFault_17 ?_
        refine lv_istore_n (lv' := [(3, .int (M (d + 1) k4)), (2, .int (nI k4)), (1, .int (nI z4.2)), (0, .ref d)]) hx hb dX3_firstFault_18 rfl hl (by decide) rfl (fun ls hl => ?_)
        refine lv_iload_n hx hb dX3_firstFault_19 rfl (lv_at hl 0 rfl) ?_
        refine lv_bipush (v := (nI 44)) hx hb dX3_firstFault_20 (by decide) ?_
        refine lv_icmp_ne (tgt := 34) hx hb dX3_firstFault_22 (by decide) (fun c_4 => ?_) (fun c_4 => ?_)
        · refine lv_iload_n hx hb dX3_firstFault_34 rfl (lv_at hl 0 rfl) ?_
          refine xc_i (xr_S (As := [.int (M (d + 1) k4)]) (rest := []) ⟨hx, hb, hml, hown, hts⟩ (c_X3_isWindow l O M (M (d + 1) k4)) (va_cwS 1 hts gX3_firstFault_X3_isWindow rfl rfl rfl (by decide +kernel) ⟨Nat.le_of_ble_eq_true rfl, Nat.le_of_ble_eq_true rfl⟩) hK hst hnw hS hW rfl hl.1 rfl (Nat.le_of_ble_eq_true rfl) dX3_firstFault_35 ⟨Nat.zero_le _, Nat.zero_le _⟩) hS (fun r_7 M_5 H locs hq_6 hW hS => ?_)
          obtain ⟨hq_6a, hq_6b⟩ := hq_6
          rw [hq_6b] at hW
          rw [hq_6a]
          rw [hf, zc_w1 h6]
          refine lv_if_eq (tgt := 61) hx hb dX3_firstFault_38 (by decide) (fun c_8 => ?_) (fun c_8 => ?_)
          · exact absurd c_8 (by decide)
          · refine lv_iload_n hx hb dX3_firstFault_41 rfl (lv_at hl 2 rfl) ?_
            refine lv_bipush (v := (nI 8)) hx hb dX3_firstFault_42 (by decide) ?_
            refine lv_icmp_ge (tgt := 61) hx hb dX3_firstFault_44 (by decide) (fun c_9 => ?_) (fun c_9 => ?_)
            · exact absurd c_9 (nI_ge (by omega) (by omega))
            · refine lv_aload_n hx hb dX3_firstFault_47 rfl (lv_at hl 3 rfl) ?_
              refine lv_iload_n hx hb dX3_firstFault_48 rfl (lv_at hl 1 rfl) ?_
              have hrep : k4 = 0 ∨ M (d + 1) (k4 - 1) ≠ M (d + 1) k4 := by
                rcases Nat.eq_zero_or_pos z4.2 with q | q
                · rcases Nat.eq_zero_or_pos z4.1 with q1 | q1
                  · left; rw [ei, q, q1]; rfl
                  · right
                    obtain ⟨y, hy⟩ : ∃ y, z4.1 = y + 1 := ⟨z4.1 - 1, by omega⟩
                    have g2 : zt_s em (y + 1) = zt_s em y + em y + 1 := rfl
                    have g3 : k4 - 1 = zt_s em y + em y := by rw [ei, q, hy, g2]; omega
                    rw [g3, hz.2 y (by omega), hf]
                    exact fun z => zc_44 h6 z.symm
                · right
                  have g3 : k4 - 1 = zt_s em z4.1 + (z4.2 - 1) := by omega
                  rw [g3, hz.1 z4.1 (z4.2 - 1) (by omega) (by omega), hf]
                  intro z
                  have g4 := v4 (z4.2 - 1) (by omega)
                  rw [show z4.2 - 1 + 1 = z4.2 by omega] at g4
                  have g5 := v3 (z4.2 - 1) (by omega)
                  have := zI_inj (by omega) (by omega) z
                  omega
              refine xc_i (xr_V (As := [.int (nI k4)]) (rest := []) (κ := 14) ⟨hx, hb, hml, hown, hts⟩ (c_X3_repeatsAt l O M d hτ hL hM hk4 hrep) (cwV 1 hts gX3_firstFault_X3_repeatsAt rfl rfl rfl (by decide +kernel) ⟨Nat.le_of_ble_eq_true rfl, Nat.le_of_ble_eq_true rfl⟩) hK hst hnw hS hW hτ (by decide) rfl rfl rfl hl.1 rfl (Nat.le_of_ble_eq_true rfl) dX3_firstFault_49 ⟨Nat.zero_le _, Nat.zero_le _⟩) hS (fun r_12 M_10 H locs hq_11 hW hS => ?_)
              obtain ⟨hq_11a, hq_11b⟩ := hq_11
              rw [hq_11b] at hW
              rw [hq_11a]
              refine lv_if_ne (tgt := 61) hx hb dX3_firstFault_52 (by decide) (fun c_13 => ?_) (fun c_13 => ?_)
              · exact absurd rfl c_13
              · refine lv_iinc (v := (nI (z4.2 + 1))) (lv' := [(1, .int (nI (z4.2 + 1))), (3, .int (M (d + 1) k4)), (2, .int (nI k4)), (0, .ref d)]) hx hb dX3_firstFault_55 hl (k := 2) rfl ((nI_1 z4.2)) (by decide) rfl (fun ls hl => ?_)
                refine lv_goto (tgt := 63) hx hb dX3_firstFault_58 (by decide) ?_
                refine lv_iinc (v := (nI (k4 + 1))) (lv' := [(2, .int (nI (k4 + 1))), (1, .int (nI (z4.2 + 1))), (3, .int (M (d + 1) k4)), (0, .ref d)]) hx hb dX3_firstFault_63 hl (k := 2) rfl ((nI_1 k4)) (by decide) rfl (fun ls hl => ?_)
                refine lv_goto (tgt := 4) hx hb dX3_firstFault_66 (by decide) ?_
                exact ih4 (z4.1, z4.2 + 1) _ _ _ ⟨hW, hS, lv_sub hl [0, 1, 3] rfl, ⟨by show _ + 1 = zt_s em z4.1 + (z4.2 + 1); omega, ek, hj⟩⟩
        · exact absurd (hf.symm.trans c_4) (zc_44 h6)
      · have hf : M (d + 1) k4 = nI 44 := by rw [ei, show z4.2 = em z4.1 by omega]; exact hz.2 _ (by omega)
        have hk1 : z4.1 + 1 < NN := by have g1 := zt_s_le (m := em) ek; rcases Nat.lt_or_ge (z4.1 + 1) NN with g | g; exact g; exact absurd (show L = k4 by rw [show NN = z4.1 + 1 by omega] at hN; have g2 : zt_s em (z4.1 + 1) = zt_s em z4.1 + em z4.1 + 1 := rfl; omega) (by omega)
        refine lv_aload_n hx hb dX3_firstFault_12 rfl (lv_at hl 2 rfl) ?_
        refine xg_get (κ := 14) (ci := 3) (C := RX3) (T := TX3) (N := 2) hx hb hts inX3 hown hK hW hτ (by decide) rfl rfl 0 (by decide) (hts (.fieldLink RX3 9 "HalfTickets$Pad" "text" "[C") (List.mem_of_getElem? (i := 2) (by decide +kernel))) (fun _ h9 => h9) rfl dX3_firstFault_13 ?_
        refine lv_iload_n hx hb dX3_firstFault_16 rfl (lv_at hl 0 rfl) ?_
        refine xg_cald hx hb hK hW (O.d hτ) k4 rfl (by omega) dX3_firstFault_17 ?_
        refine lv_istore_n (lv' := [(3, .int (M (d + 1) k4)), (2, .int (nI k4)), (1, .int (nI z4.2)), (0, .ref d)]) hx hb dX3_firstFault_18 rfl hl (by decide) rfl (fun ls hl => ?_)
        refine lv_iload_n hx hb dX3_firstFault_19 rfl (lv_at hl 0 rfl) ?_
        refine lv_bipush (v := (nI 44)) hx hb dX3_firstFault_20 (by decide) ?_
        refine lv_icmp_ne (tgt := 34) hx hb dX3_firstFault_22 (by decide) (fun c_14 => ?_) (fun c_14 => ?_)
        · exact absurd hf c_14
        · refine lv_iload_n hx hb dX3_firstFault_25 rfl (lv_at hl 2 rfl) ?_
          refine lv_if_le (tgt := 34) hx hb dX3_firstFault_26 (by decide) (fun c_15 => ?_) (fun c_15 => ?_)
          · exact absurd c_15 (nI_nle (by omega) (by omega))
          · refine lv_iconst (v := (nI 0)) hx hb dX3_firstFault_29 (by decide) ?_
            refine lv_istore_n (lv' := [(1, .int (nI 0)), (3, .int (M (d + 1) k4)), (2, .int (nI k4)), (0, .ref d)]) hx hb dX3_firstFault_30 rfl hl (by decide) rfl (fun ls hl => ?_)
            refine lv_goto (tgt := 63) hx hb dX3_firstFault_31 (by decide) ?_
            refine lv_iinc (v := (nI (k4 + 1))) (lv' := [(2, .int (nI (k4 + 1))), (1, .int (nI 0)), (3, .int (M (d + 1) k4)), (0, .ref d)]) hx hb dX3_firstFault_63 hl (k := 2) rfl ((nI_1 k4)) (by decide) rfl (fun ls hl => ?_)
            refine lv_goto (tgt := 4) hx hb dX3_firstFault_66 (by decide) ?_
            exact ih4 (z4.1 + 1, 0) _ _ _ ⟨hW, hS, lv_sub hl [0, 1, 3] rfl, ⟨by show _ + 1 = zt_s em z4.1 + em z4.1 + 1 + 0; omega, hk1, Nat.zero_le _⟩⟩

set_option maxHeartbeats 4000000 in
set_option maxRecDepth 100000 in
/-- Pad.errands() of a text -/
theorem c_X3_errands (l : Launch) {G : va_G} {g : Nat → ClassId} {t0 τ : Nat → Nat} {A : Nat → Prop} (O : xk_O τ A) (M : xm_T) (d : Nat) (hτ : τ d = 14) {L NN : Nat} {em : Nat → Nat} {ee : Nat → Nat → Nat} (hL : L ≤ 60) (hM : M d 1 = nI L) (hz : zt (M (d + 1)) L em ee) (hv : zt_v NN em ee) (hN : L + 1 = zt_s em NN) : Met l yX3_errands wsX3_errands ({ frames := 0, cells := 0, slots := 0, locals := 0 }) (va_Pc [.ref d] (xS_t G g t0 τ A M)) (va_Qi (fun r M' => r = nI NN ∧ M' = M) (fun M' t => xw_D G g τ M' t.heap) A) 0 0 A := by
  refine Met.ofW (cc := cX3_errands) (maxL := 3) (ret := (some .int)) (by decide) rfl ?_
  intro p e s m args below meth c s₁ B hml hv
  obtain ⟨rfl, hW, hK, hst, hnw⟩ := hv
  have hx := B.exec
  have hb := B.bytes
  have hr := B.returns
  have hts := atoms_spec (ws := wsX3_errands) B.pre
  have hown : s.vm.findClass RX3 = some m.cls := findClass_of_methodNamed B.named
  have hlocks := B.notSynchronized
  have hS : va_S A s.heap s.heap [] := va_S.rf
  have inX3 : ∀ w ∈ u_ws RX3 TX3 2, w ∈ wsX3_errands := by decide +kernel
  have hl := lv_entry ([.ref d]) (n := 3) (Nat.le_of_ble_eq_true rfl)
  rw [lg_entry_eq]
  generalize (lg_sl ([.ref d]) ++ List.replicate (3 - (lg_sl ([.ref d])).length) Slot.unset).toArray = ls at hl ⊢
  have hl : lv_has ls 3 [(0, .ref d)] := hl
  have hNp : 0 < NN := by rcases Nat.eq_zero_or_pos NN with q | q; exact absurd hN (by rw [q]; show ¬ L + 1 = 0; omega); exact q
  refine lv_iconst (v := (nI 1)) hx hb dX3_errands_0 (by decide) ?_
  refine lv_istore_n (lv' := [(1, .int (nI 1)), (0, .ref d)]) hx hb dX3_errands_1 rfl hl (by decide) rfl (fun ls hl => ?_)
  refine lv_iconst (v := (nI 0)) hx hb dX3_errands_2 (by decide) ?_
  refine lv_istore_n (lv' := [(2, .int (nI 0)), (1, .int (nI 1)), (0, .ref d)]) hx hb dX3_errands_3 rfl hl (by decide) rfl (fun ls hl => ?_)
  refine xl_up (σ := (Nat × Nat)) L (fun kk zz H locs ls => xw_D G g τ M H ∧ va_S A s.heap H locs ∧ lv_has ls 3 [(2, .int (nI kk)), (1, .int (nI (1 + zz.1))), (0, .ref d)] ∧ kk = zt_s em zz.1 + zz.2 ∧ zz.1 < NN ∧ zz.2 ≤ em zz.1) (fun z4 H locs ls hI => ?_) (fun k4 z4 H locs ls hk4 hI ih4 => ?_) (k0 := 0) (z0 := (0, 0)) (Nat.zero_le _) ⟨hW, hS, lv_sub hl [0, 1, 2] rfl, ⟨rfl, hNp, Nat.zero_le _⟩⟩
  · obtain ⟨hW, hS, hl, hE4⟩ := hI
    refine lv_iload_n hx hb dX3_errands_4 rfl (lv_at hl 0 rfl) ?_
    refine lv_aload_n hx hb dX3_errands_5 rfl (lv_at hl 2 rfl) ?_
    refine xg_get (κ := 14) (ci := 3) (C := RX3) (T := TX3) (N := 2) hx hb hts inX3 hown hK hW hτ (by decide) rfl rfl 1 (by decide) (hts (.fieldLink RX3 21 "HalfTickets$Pad" "length" "I") (List.mem_of_getElem? (i := 1) (by decide +kernel))) (fun _ h9 => h9) rfl dX3_errands_6 ?_
    refine lv_icmp_ge (tgt := 37) hx hb dX3_errands_9 (by decide) (fun c_1 => ?_) (fun c_1 => ?_)
    · refine lv_iload_n hx hb dX3_errands_37 rfl (lv_at hl 1 rfl) ?_
      exact W.iret (v := (nI (1 + z4.1))) hx hb hr (fun t ht hWm => ⟨⟨(nI (1 + z4.1)), M, rfl, ⟨(by obtain ⟨ei, ek, ej⟩ := hE4; congr 1; rcases Nat.lt_or_ge (z4.1 + 1) NN with g | g; exact absurd (zt_s_le (m := em) g) (by have g1 : zt_s em (z4.1 + 1) = zt_s em z4.1 + em z4.1 + 1 := rfl; omega); omega), rfl⟩, xw_end ht hW⟩, hS.F ht⟩) hS.2.2 dX3_errands_38
    · exact absurd (by rw [hM]; exact nI_le (Nat.le_refl _) (by omega)) c_1
  · obtain ⟨hW, hS, hl, hE4⟩ := hI
    refine lv_iload_n hx hb dX3_errands_4 rfl (lv_at hl 0 rfl) ?_
    refine lv_aload_n hx hb dX3_errands_5 rfl (lv_at hl 2 rfl) ?_
    refine xg_get (κ := 14) (ci := 3) (C := RX3) (T := TX3) (N := 2) hx hb hts inX3 hown hK hW hτ (by decide) rfl rfl 1 (by decide) (hts (.fieldLink RX3 21 "HalfTickets$Pad" "length" "I") (List.mem_of_getElem? (i := 1) (by decide +kernel))) (fun _ h9 => h9) rfl dX3_errands_6 ?_
    refine lv_icmp_ge (tgt := 37) hx hb dX3_errands_9 (by decide) (fun c_2 => ?_) (fun c_2 => ?_)
    · exact absurd c_2 (by rw [hM]; exact nI_ge hk4 (by omega))
    · obtain ⟨ei, ek, ej⟩ := hE4
      obtain ⟨v1, v2, v3, v4⟩ := hv z4.1 ek
      rcases Nat.lt_or_ge z4.2 (em z4.1) with hj | hj
      · have h6 : ee z4.1 z4.2 < 6 := v3 _ hj
        have hf : M (d + 1) k4 = nI (48 + ee z4.1 z4.2) := by rw [ei]; exact hz.1 _ _ hj (by omega)
        refine lv_iload_n hx hb dX3_errands_12 rfl (lv_at hl 1 rfl) ?_
        refine lv_aload_n hx hb dX3_errands_13 rfl (lv_at hl 2 rfl) ?_
        refine xg_get (κ := 14) (ci := 3) (C := RX3) (T := TX3) (N := 2) hx hb hts inX3 hown hK hW hτ (by decide) rfl rfl 0 (by decide) (hts (.fieldLink RX3 9 "HalfTickets$Pad" "text" "[C") (List.mem_of_getElem? (i := 2) (by decide +kernel))) (fun _ h9 => h9) rfl dX3_errands_14 ?_
        refine lv_iload_n hx hb dX3_errands_17 rfl (lv_at hl 0 rfl) ?_
        refine xg_cald hx hb hK hW (O.d hτ) k4 rfl (by omega) dX3_errands_18 ?_
        refine lv_bipush (v := (nI 44)) hx hb dX3_errands_19 (by decide) ?_
        refine lv_icmp_ne (tgt := 28) hx hb dX3_errands_21 (by decide) (fun c_3 => ?_) (fun c_3 => ?_)
        · refine lv_iconst (v := (nI 0)) hx hb dX3_errands_28 (by decide) ?_
          refine lv_iadd hx hb dX3_errands_29 ?_
          rw [show nI (1 + z4.1) + nI 0 = nI (1 + z4.1) from nI_add (1 + z4.1) 0]
          refine lv_istore_n (lv' := [(1, .int (nI (1 + z4.1))), (2, .int (nI k4)), (0, .ref d)]) hx hb dX3_errands_30 rfl hl (by decide) rfl (fun ls hl => ?_)
          refine lv_iinc (v := (nI (k4 + 1))) (lv' := [(2, .int (nI (k4 + 1))), (1, .int (nI (1 + z4.1))), (0, .ref d)]) hx hb dX3_errands_31 hl (k := 1) rfl ((nI_1 k4)) (by decide) rfl (fun ls hl => ?_)
          refine lv_goto (tgt := 4) hx hb dX3_errands_34 (by decide) ?_
          exact ih4 (z4.1, z4.2 + 1) _ _ _ ⟨hW, hS, lv_sub hl [0, 1, 2] rfl, ⟨by show _ + 1 = zt_s em z4.1 + (z4.2 + 1); omega, ek, hj⟩⟩
        · exact absurd (hf.symm.trans c_3) (zc_44 h6)
      · have hf : M (d + 1) k4 = nI 44 := by rw [ei, show z4.2 = em z4.1 by omega]; exact hz.2 _ (by omega)
        have hk1 : z4.1 + 1 < NN := by have g1 := zt_s_le (m := em) ek; rcases Nat.lt_or_ge (z4.1 + 1) NN with g | g; exact g; exact absurd (show L = k4 by rw [show NN = z4.1 + 1 by omega] at hN; have g2 : zt_s em (z4.1 + 1) = zt_s em z4.1 + em z4.1 + 1 := rfl; omega) (by omega)
        refine lv_iload_n hx hb dX3_errands_12 rfl (lv_at hl 1 rfl) ?_
        refine lv_aload_n hx hb dX3_errands_13 rfl (lv_at hl 2 rfl) ?_
        refine xg_get (κ := 14) (ci := 3) (C := RX3) (T := TX3) (N := 2) hx hb hts inX3 hown hK hW hτ (by decide) rfl rfl 0 (by decide) (hts (.fieldLink RX3 9 "HalfTickets$Pad" "text" "[C") (List.mem_of_getElem? (i := 2) (by decide +kernel))) (fun _ h9 => h9) rfl dX3_errands_14 ?_
        refine lv_iload_n hx hb dX3_errands_17 rfl (lv_at hl 0 rfl) ?_
        refine xg_cald hx hb hK hW (O.d hτ) k4 rfl (by omega) dX3_errands_18 ?_
        refine lv_bipush (v := (nI 44)) hx hb dX3_errands_19 (by decide) ?_
        refine lv_icmp_ne (tgt := 28) hx hb dX3_errands_21 (by decide) (fun c_4 => ?_) (fun c_4 => ?_)
        · exact absurd hf c_4
        · refine lv_iconst (v := (nI 1)) hx hb dX3_errands_24 (by decide) ?_
          refine lv_goto (tgt := 29) hx hb dX3_errands_25 (by decide) ?_
          refine lv_iadd hx hb dX3_errands_29 ?_
          rw [show nI (1 + z4.1) + nI 1 = nI (1 + (z4.1 + 1)) from nI_add (1 + z4.1) 1]
          refine lv_istore_n (lv' := [(1, .int (nI (1 + (z4.1 + 1)))), (2, .int (nI k4)), (0, .ref d)]) hx hb dX3_errands_30 rfl hl (by decide) rfl (fun ls hl => ?_)
          refine lv_iinc (v := (nI (k4 + 1))) (lv' := [(2, .int (nI (k4 + 1))), (1, .int (nI (1 + (z4.1 + 1)))), (0, .ref d)]) hx hb dX3_errands_31 hl (k := 1) rfl ((nI_1 k4)) (by decide) rfl (fun ls hl => ?_)
          refine lv_goto (tgt := 4) hx hb dX3_errands_34 (by decide) ?_
          exact ih4 (z4.1 + 1, 0) _ _ _ ⟨hW, hS, lv_sub hl [0, 1, 2] rfl, ⟨by show _ + 1 = zt_s em z4.1 + em z4.1 + 1 + 0; omega, hk1, Nat.zero_le _⟩⟩

set_option maxHeartbeats 4000000 in
set_option maxRecDepth 100000 in
/-- Pad.endOfErrand() of a text -/
theorem c_X3_endOfErrand (l : Launch) {G : va_G} {g : Nat → ClassId} {t0 τ : Nat → Nat} {A : Nat → Prop} (O : xk_O τ A) (M : xm_T) (d : Nat) (hτ : τ d = 14) {L NN : Nat} {em : Nat → Nat} {ee : Nat → Nat → Nat} (hL : L ≤ 60) (hM : M d 1 = nI L) (hz : zt (M (d + 1)) L em ee) (hv : zt_v NN em ee) (hN : L + 1 = zt_s em NN) {kq : Nat} (hkq : kq < NN) : Met l yX3_endOfErrand wsX3_endOfErrand ({ frames := 1, cells := 0, slots := 0, locals := 30 }) (va_Pc [.ref d, .int (nI (zt_s em kq))] (xS_t G g t0 τ A M)) (va_Qi (fun r M' => r = nI (zt_s em kq + em kq) ∧ M' = M) (fun M' t => xw_D G g τ M' t.heap) A) 0 0 A := by
  refine Met.ofW (cc := cX3_endOfErrand) (maxL := 3) (ret := (some .int)) (by decide) rfl ?_
  intro p e s m args below meth c s₁ B hml hv
  obtain ⟨rfl, hW, hK, hst, hnw⟩ := hv
  have hx := B.exec
  have hb := B.bytes
  have hr := B.returns
  have hts := atoms_spec (ws := wsX3_endOfErrand) B.pre
  have hown : s.vm.findClass RX3 = some m.cls := findClass_of_methodNamed B.named
  have hlocks := B.notSynchronized
  have hS : va_S A s.heap s.heap [] := va_S.rf
  have inX3 : ∀ w ∈ u_ws RX3 TX3 2, w ∈ wsX3_endOfErrand := by decide +kernel
  have hl := lv_entry ([.ref d, .int (nI (zt_s em kq))]) (n := 3) (Nat.le_of_ble_eq_true rfl)
  rw [lg_entry_eq]
  generalize (lg_sl ([.ref d, .int (nI (zt_s em kq))]) ++ List.replicate (3 - (lg_sl ([.ref d, .int (nI (zt_s em kq))])).length) Slot.unset).toArray = ls at hl ⊢
  have hl : lv_has ls 3 [(0, .ref d), (1, .int (nI (zt_s em kq)))] := hl
  have hle := zt_s_le (m := em) hkq
  have hv1 := hv kq hkq
  refine lv_iconst (v := (nI 0)) hx hb dX3_endOfErrand_0 (by decide) ?_
  refine lv_iload_n hx hb dX3_endOfErrand_1 rfl (lv_at hl 1 rfl) ?_
  refine va_mmax hx hb (by rw [hml]; exact hl.1.symm) hown (hts (.methodLink RX3 33 Lib.Math.max.name) (List.mem_of_getElem? (i := 1) (by decide +kernel))) (hts (.static Lib.Math.max.name) (List.mem_of_getElem? (i := 2) (by decide +kernel))) (hts (.initialized "java/lang/Math") (List.mem_of_getElem? (i := 3) (by decide +kernel))) (hts (.code Lib.Math.max.name Lib.Math.max.code 2 (some .int)) (List.mem_of_getElem? (i := 4) (by decide +kernel))) (Nat.le_of_ble_eq_true rfl) (Nat.le_of_ble_eq_true rfl) (Nat.zero_le _) (Nat.zero_le _) dX3_endOfErrand_2 ?_
  rw [zc_mx (by omega)]
  refine lv_istore_n (lv' := [(2, .int (nI (zt_s em kq))), (0, .ref d), (1, .int (nI (zt_s em kq)))]) hx hb dX3_endOfErrand_5 rfl hl (by decide) rfl (fun ls hl => ?_)
  refine xl_up (σ := Unit) L (fun kk zz H locs ls => xw_D G g τ M H ∧ va_S A s.heap H locs ∧ lv_has ls 3 [(2, .int (nI kk)), (0, .ref d), (1, .int (nI (zt_s em kq)))] ∧ zt_s em kq ≤ kk ∧ kk ≤ zt_s em kq + em kq) (fun z6 H locs ls hI => ?_) (fun k6 z6 H locs ls hk6 hI ih6 => ?_) (k0 := (zt_s em kq)) (z0 := ()) (by omega) ⟨hW, hS, lv_sub hl [0, 1, 2] rfl, ⟨Nat.le_refl _, Nat.le_add_right _ _⟩⟩
  · obtain ⟨hW, hS, hl, hE6⟩ := hI
    refine lv_iload_n hx hb dX3_endOfErrand_6 rfl (lv_at hl 0 rfl) ?_
    refine lv_aload_n hx hb dX3_endOfErrand_7 rfl (lv_at hl 1 rfl) ?_
    refine xg_get (κ := 14) (ci := 3) (C := RX3) (T := TX3) (N := 2) hx hb hts inX3 hown hK hW hτ (by decide) rfl rfl 1 (by decide) (hts (.fieldLink RX3 21 "HalfTickets$Pad" "length" "I") (List.mem_of_getElem? (i := 5) (by decide +kernel))) (fun _ h9 => h9) rfl dX3_endOfErrand_8 ?_
    refine lv_icmp_ge (tgt := 33) hx hb dX3_endOfErrand_11 (by decide) (fun c_1 => ?_) (fun c_1 => ?_)
    · refine lv_aload_n hx hb dX3_endOfErrand_33 rfl (lv_at hl 1 rfl) ?_
      refine xg_get (κ := 14) (ci := 3) (C := RX3) (T := TX3) (N := 2) hx hb hts inX3 hown hK hW hτ (by decide) rfl rfl 1 (by decide) (hts (.fieldLink RX3 21 "HalfTickets$Pad" "length" "I") (List.mem_of_getElem? (i := 5) (by decide +kernel))) (fun _ h9 => h9) rfl dX3_endOfErrand_34 ?_
      exact W.iret (v := (M d 1)) hx hb hr (fun t ht hWm => ⟨⟨(M d 1), M, rfl, ⟨(by rw [hM]; congr 1; omega), rfl⟩, xw_end ht hW⟩, hS.F ht⟩) hS.2.2 dX3_endOfErrand_37
    · exact absurd (by rw [hM]; exact nI_le (Nat.le_refl _) (by omega)) c_1
  · obtain ⟨hW, hS, hl, hE6⟩ := hI
    refine lv_iload_n hx hb dX3_endOfErrand_6 rfl (lv_at hl 0 rfl) ?_
    refine lv_aload_n hx hb dX3_endOfErrand_7 rfl (lv_at hl 1 rfl) ?_
    refine xg_get (κ := 14) (ci := 3) (C := RX3) (T := TX3) (N := 2) hx hb hts inX3 hown hK hW hτ (by decide) rfl rfl 1 (by decide) (hts (.fieldLink RX3 21 "HalfTickets$Pad" "length" "I") (List.mem_of_getElem? (i := 5) (by decide +kernel))) (fun _ h9 => h9) rfl dX3_endOfErrand_8 ?_
    refine lv_icmp_ge (tgt := 33) hx hb dX3_endOfErrand_11 (by decide) (fun c_2 => ?_) (fun c_2 => ?_)
    · exact absurd c_2 (by rw [hM]; exact nI_ge hk6 (by omega))
    · refine lv_aload_n hx hb dX3_endOfErrand_14 rfl (lv_at hl 1 rfl) ?_
      refine xg_get (κ := 14) (ci := 3) (C := RX3) (T := TX3) (N := 2) hx hb hts inX3 hown hK hW hτ (by decide) rfl rfl 0 (by decide) (hts (.fieldLink RX3 9 "HalfTickets$Pad" "text" "[C") (List.mem_of_getElem? (i := 6) (by decide +kernel))) (fun _ h9 => h9) rfl dX3_endOfErrand_15 ?_
      refine lv_iload_n hx hb dX3_endOfErrand_18 rfl (lv_at hl 0 rfl) ?_
      refine xg_cald hx hb hK hW (O.d hτ) k6 rfl (by omega) dX3_endOfErrand_19 ?_
      refine lv_bipush (v := (nI 44)) hx hb dX3_endOfErrand_20 (by decide) ?_
      refine lv_icmp_ne (tgt := 27) hx hb dX3_endOfErrand_22 (by decide) (fun c_3 => ?_) (fun c_3 => ?_)
      · have hlt : k6 + 1 ≤ zt_s em kq + em kq := by
          rcases Nat.lt_or_ge k6 (zt_s em kq + em kq) with q | q
          · exact q
          · exact absurd (by rw [show k6 = zt_s em kq + em kq by omega]; exact hz.2 kq (by omega)) c_3
        refine lv_iinc (v := (nI (k6 + 1))) (lv' := [(2, .int (nI (k6 + 1))), (0, .ref d), (1, .int (nI (zt_s em kq)))]) hx hb dX3_endOfErrand_27 hl (k := 0) rfl ((nI_1 k6)) (by decide) rfl (fun ls hl => ?_)
        refine lv_goto (tgt := 6) hx hb dX3_endOfErrand_30 (by decide) ?_
        exact ih6 () _ _ _ ⟨hW, hS, lv_sub hl [0, 1, 2] rfl, ⟨by omega, hlt⟩⟩
      · have hend : k6 = zt_s em kq + em kq := by
          rcases Nat.lt_or_ge k6 (zt_s em kq + em kq) with q | q
          · exact absurd (c_3.symm.trans (by have g := hz.1 kq (k6 - zt_s em kq) (by omega) (by omega); rw [show zt_s em kq + (k6 - zt_s em kq) = k6 by omega] at g; exact g)) (fun z => zc_44 (hv1.2.2.1 _ (by omega)) z.symm)
          · omega
        refine lv_iload_n hx hb dX3_endOfErrand_25 rfl (lv_at hl 0 rfl) ?_
        exact W.iret (v := (nI k6)) hx hb hr (fun t ht hWm => ⟨⟨(nI k6), M, rfl, ⟨(by rw [hend]), rfl⟩, xw_end ht hW⟩, hS.F ht⟩) hS.2.2 dX3_endOfErrand_26

set_option maxHeartbeats 4000000 in
set_option maxRecDepth 100000 in
/-- Pad.windowAt() of a text -/
theorem c_X3_windowAt (l : Launch) {G : va_G} {g : Nat → ClassId} {t0 τ : Nat → Nat} {A : Nat → Prop} (O : xk_O τ A) (M : xm_T) (d : Nat) (hτ : τ d = 14) {L NN : Nat} {em : Nat → Nat} {ee : Nat → Nat → Nat} (hL : L ≤ 60) (hM : M d 1 = nI L) (hz : zt (M (d + 1)) L em ee) (hv : zt_v NN em ee) (hN : L + 1 = zt_s em NN) {kq jj : Nat} (hkq : kq < NN) (hjj : jj < em kq) : Met l yX3_windowAt wsX3_windowAt ({ frames := 1, cells := 0, slots := 0, locals := 30 }) (va_Pc [.ref d, .int (nI (zt_s em kq + jj))] (xS_t G g t0 τ A M)) (va_Qi (fun r M' => r = nI (ee kq jj) ∧ M' = M) (fun M' t => xw_D G g τ M' t.heap) A) 0 0 A := by
  refine Met.ofW (cc := cX3_windowAt) (maxL := 2) (ret := (some .int)) (by decide) rfl ?_
  intro p e s m args below meth c s₁ B hml hv
  obtain ⟨rfl, hW, hK, hst, hnw⟩ := hv
  have hx := B.exec
  have hb := B.bytes
  have hr := B.returns
  have hts := atoms_spec (ws := wsX3_windowAt) B.pre
  have hown : s.vm.findClass RX3 = some m.cls := findClass_of_methodNamed B.named
  have hlocks := B.notSynchronized
  have hS : va_S A s.heap s.heap [] := va_S.rf
  have inX3 : ∀ w ∈ u_ws RX3 TX3 2, w ∈ wsX3_windowAt := by decide +kernel
  have hl := lv_entry ([.ref d, .int (nI (zt_s em kq + jj))]) (n := 2) (Nat.le_of_ble_eq_true rfl)
  rw [lg_entry_eq]
  generalize (lg_sl ([.ref d, .int (nI (zt_s em kq + jj))]) ++ List.replicate (2 - (lg_sl ([.ref d, .int (nI (zt_s em kq + jj))])).length) Slot.unset).toArray = ls at hl ⊢
  have hl : lv_has ls 2 [(0, .ref d), (1, .int (nI (zt_s em kq + jj)))] := hl
  have hle := zt_s_le (m := em) hkq
  have h6 : ee kq jj < 6 := (hv kq hkq).2.2.1 jj hjj
  have hf : M (d + 1) (zt_s em kq + jj) = nI (48 + ee kq jj) := hz.1 kq jj hjj (by omega)
  refine lv_iload_n hx hb dX3_windowAt_0 rfl (lv_at hl 1 rfl) ?_
  refine lv_if_lt (tgt := 36) hx hb dX3_windowAt_1 (by decide) (fun c_1 => ?_) (fun c_1 => ?_)
  · exact absurd c_1 (nI_pos (by omega))
  · refine lv_iload_n hx hb dX3_windowAt_4 rfl (lv_at hl 1 rfl) ?_
    refine lv_aload_n hx hb dX3_windowAt_5 rfl (lv_at hl 0 rfl) ?_
    refine xg_get (κ := 14) (ci := 3) (C := RX3) (T := TX3) (N := 2) hx hb hts inX3 hown hK hW hτ (by decide) rfl rfl 1 (by decide) (hts (.fieldLink RX3 21 "HalfTickets$Pad" "length" "I") (List.mem_of_getElem? (i := 1) (by decide +kernel))) (fun _ h9 => h9) rfl dX3_windowAt_6 ?_
    refine lv_icmp_ge (tgt := 36) hx hb dX3_windowAt_9 (by decide) (fun c_2 => ?_) (fun c_2 => ?_)
    · exact absurd c_2 (by rw [hM]; exact nI_ge (by omega) (by omega))
    · refine lv_aload_n hx hb dX3_windowAt_12 rfl (lv_at hl 0 rfl) ?_
      refine xg_get (κ := 14) (ci := 3) (C := RX3) (T := TX3) (N := 2) hx hb hts inX3 hown hK hW hτ (by decide) rfl rfl 0 (by decide) (hts (.fieldLink RX3 9 "HalfTickets$Pad" "text" "[C") (List.mem_of_getElem? (i := 2) (by decide +kernel))) (fun _ h9 => h9) rfl dX3_windowAt_13 ?_
      refine lv_iload_n hx hb dX3_windowAt_16 rfl (lv_at hl 1 rfl) ?_
      refine xg_cald hx hb hK hW (O.d hτ) (zt_s em kq + jj) rfl (by omega) dX3_windowAt_17 ?_
      refine xc_i (xr_S (As := [.int (M (d + 1) (zt_s em kq + jj))]) (rest := []) ⟨hx, hb, hml, hown, hts⟩ (c_X3_isWindow l O M (M (d + 1) (zt_s em kq + jj))) (va_cwS 1 hts gX3_windowAt_X3_isWindow rfl rfl rfl (by decide +kernel) ⟨Nat.le_of_ble_eq_true rfl, Nat.le_of_ble_eq_true rfl⟩) hK hst hnw hS hW rfl hl.1 rfl (Nat.le_of_ble_eq_true rfl) dX3_windowAt_18 ⟨Nat.zero_le _, Nat.zero_le _⟩) hS (fun r_5 M_3 H locs hq_4 hW hS => ?_)
      obtain ⟨hq_4a, hq_4b⟩ := hq_4
      rw [hq_4b] at hW
      rw [hq_4a]
      rw [hf, zc_w1 h6]
      refine lv_if_eq (tgt := 36) hx hb dX3_windowAt_21 (by decide) (fun c_6 => ?_) (fun c_6 => ?_)
      · exact absurd c_6 (by decide)
      · refine lv_aload_n hx hb dX3_windowAt_24 rfl (lv_at hl 0 rfl) ?_
        refine xg_get (κ := 14) (ci := 3) (C := RX3) (T := TX3) (N := 2) hx hb hts inX3 hown hK hW hτ (by decide) rfl rfl 0 (by decide) (hts (.fieldLink RX3 9 "HalfTickets$Pad" "text" "[C") (List.mem_of_getElem? (i := 2) (by decide +kernel))) (fun _ h9 => h9) rfl dX3_windowAt_25 ?_
        refine lv_iload_n hx hb dX3_windowAt_28 rfl (lv_at hl 1 rfl) ?_
        refine xg_cald hx hb hK hW (O.d hτ) (zt_s em kq + jj) rfl (by omega) dX3_windowAt_29 ?_
        refine lv_bipush (v := (nI 48)) hx hb dX3_windowAt_30 (by decide) ?_
        refine lv_isub hx hb dX3_windowAt_32 ?_
        refine lv_goto (tgt := 38) hx hb dX3_windowAt_33 (by decide) ?_
        exact W.iret (v := ((M (d + 1) (zt_s em kq + jj)) - (nI 48))) hx hb hr (fun t ht hWm => ⟨⟨((M (d + 1) (zt_s em kq + jj)) - (nI 48)), M, rfl, ⟨(by rw [hf]; exact zc_sb _), rfl⟩, xw_end ht hW⟩, hS.F ht⟩) hS.2.2 dX3_windowAt_38
