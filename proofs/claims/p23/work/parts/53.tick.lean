set_option maxHeartbeats 4000000 in
set_option maxRecDepth 100000 in
/-- waitInQueues() -/
theorem c_X2_waitInQueues (l : Launch) {G : va_G} {g : Nat → ClassId} {t0 τ : Nat → Nat} {A : Nat → Prop} (O : xk_O τ A) (M : xm_T) (a : Nat) (hτ : τ a = 1) {nn TT GG BB : Nat} (h : zi a M nn TT GG BB) (hT : TT + 1 ≤ GG) : Met l yX2_waitInQueues wsX2_waitInQueues ({ frames := 3, cells := 0, slots := 0, locals := 90 }) (va_Pc [.ref a] (xS_t G g t0 τ A M)) (va_Qv (fun M' => M' = zm_wa a M) (fun M' t => xw_D G g τ M' t.heap) A) 0 0 A := by
  refine Met.ofW (cc := cX2_waitInQueues) (maxL := 6) (ret := none) (by decide) rfl ?_
  intro p e s m args below meth c s₁ B hml hv
  obtain ⟨rfl, hW, hK, hst, hnw⟩ := hv
  have hx := B.exec
  have hb := B.bytes
  have hr := B.returns
  have hts := atoms_spec (ws := wsX2_waitInQueues) B.pre
  have hown : s.vm.findClass RX2 = some m.cls := findClass_of_methodNamed B.named
  have hlocks := B.notSynchronized
  have hS : va_S A s.heap s.heap [] := va_S.rf
  have inX2 : ∀ w ∈ u_ws RX2 TX2 7, w ∈ wsX2_waitInQueues := by decide +kernel
  have inX4 : ∀ w ∈ u_ws RX4 TX4 12, w ∈ wsX2_waitInQueues := by decide +kernel
  have hl := lv_entry ([.ref a]) (n := 6) (Nat.le_of_ble_eq_true rfl)
  rw [lg_entry_eq]
  generalize (lg_sl ([.ref a]) ++ List.replicate (6 - (lg_sl ([.ref a])).length) Slot.unset).toArray = ls at hl ⊢
  have hl : lv_has ls 6 [(0, .ref a)] := hl
  refine lv_aload_n hx hb dX2_waitInQueues_0 rfl (lv_at hl 0 rfl) ?_
  refine xg_get (κ := 1) (ci := 2) (C := RX2) (T := TX2) (N := 7) hx hb hts inX2 hown hK hW hτ (by decide) rfl rfl 0 (by decide) (hts (.fieldLink RX2 18 "HalfTickets$Ministry" "settings" "[I") (List.mem_of_getElem? (i := 1) (by decide +kernel))) (fun _ h9 => h9) rfl dX2_waitInQueues_1 ?_
  refine lv_iconst (v := (nI 2)) hx hb dX2_waitInQueues_4 (by decide) ?_
  refine xg_iald (κ := 103) (n := 3) hx hb hK hW (O.m1 hτ) (by decide) rfl 2 rfl (by decide) (by decide) dX2_waitInQueues_5 ?_
  refine lv_istore_n (lv' := [(1, .int (M (a + 1) 2)), (0, .ref a)]) hx hb dX2_waitInQueues_6 rfl hl (by decide) rfl (fun ls hl => ?_)
  refine lv_aload_n hx hb dX2_waitInQueues_7 rfl (lv_at hl 1 rfl) ?_
  refine xg_get (κ := 1) (ci := 2) (C := RX2) (T := TX2) (N := 7) hx hb hts inX2 hown hK hW hτ (by decide) rfl rfl 2 (by decide) (hts (.fieldLink RX2 31 "HalfTickets$Ministry" "persons" "[LHalfTickets$Person;") (List.mem_of_getElem? (i := 2) (by decide +kernel))) (fun _ h9 => h9) rfl dX2_waitInQueues_8 ?_
  refine lv_astore_n (lv' := [(2, .ref (a + 3)), (1, .int (M (a + 1) 2)), (0, .ref a)]) hx hb dX2_waitInQueues_11 rfl hl (by decide) rfl (fun ls hl => ?_)
  refine lv_aload_n hx hb dX2_waitInQueues_12 rfl (lv_at hl 0 rfl) ?_
  refine xg_alen (κ := 4) (v := nI 24) hx hb hK hW (O.m3 hτ) (by decide) rfl 4 rfl rfl dX2_waitInQueues_13 ?_
  refine lv_istore_n (lv' := [(3, .int (nI 24)), (2, .ref (a + 3)), (1, .int (M (a + 1) 2)), (0, .ref a)]) hx hb dX2_waitInQueues_14 rfl hl (by decide) rfl (fun ls hl => ?_)
  refine lv_iconst (v := (nI 0)) hx hb dX2_waitInQueues_15 (by decide) ?_
  refine lv_istore (lv' := [(4, .int (nI 0)), (3, .int (nI 24)), (2, .ref (a + 3)), (1, .int (M (a + 1) 2)), (0, .ref a)]) hx hb dX2_waitInQueues_16 hl (by decide) rfl (fun ls hl => ?_)
  refine xl_up (σ := Unit) 24 (fun kk zz H locs ls => xw_D G g τ (zm_fo (zm_w1 a) kk M) H ∧ va_S A s.heap H locs ∧ lv_has ls 6 [(4, .int (nI kk)), (3, .int (nI 24)), (2, .ref (a + 3)), (1, .int (M (a + 1) 2)), (0, .ref a)] ∧ True) (fun z18 H locs ls hI => ?_) (fun k18 z18 H locs ls hk18 hI ih18 => ?_) (k0 := 0) (z0 := ()) (Nat.zero_le _) ⟨hW, hS, lv_sub hl [0, 1, 2, 3, 4] rfl, trivial⟩
  · obtain ⟨hW, hS, hl, hE18⟩ := hI
    refine lv_iload hx hb dX2_waitInQueues_18 (lv_at hl 0 rfl) ?_
    refine lv_iload_n hx hb dX2_waitInQueues_20 rfl (lv_at hl 1 rfl) ?_
    refine lv_icmp_ge (tgt := 91) hx hb dX2_waitInQueues_21 (by decide) (fun c_1 => ?_) (fun c_1 => ?_)
    · exact W.vret hx hb hr (fun t ht hWm => ⟨⟨(zm_fo (zm_w1 a) 24 M), rfl, rfl, xw_end ht hW⟩, hS.F ht⟩) hS.2.2 dX2_waitInQueues_91
    · exact absurd (nI_le (Nat.le_refl _) (by decide)) c_1
  · obtain ⟨hW, hS, hl, hE18⟩ := hI
    obtain ⟨Z, eZ⟩ : ∃ Z, Z = zm_fo (zm_w1 a) k18 M := ⟨_, rfl⟩
    rw [← eZ] at hW
    have gz : zi a Z nn TT GG BB := by rw [eZ]; exact zi_t3 h hT k18 (by omega)
    have gs : Z (a + 1) = M (a + 1) := by rw [eZ]; exact zw_fs _ (by omega)
    refine lv_iload hx hb dX2_waitInQueues_18 (lv_at hl 0 rfl) ?_
    refine lv_iload_n hx hb dX2_waitInQueues_20 rfl (lv_at hl 1 rfl) ?_
    refine lv_icmp_ge (tgt := 91) hx hb dX2_waitInQueues_21 (by decide) (fun c_2 => ?_) (fun c_2 => ?_)
    · exact absurd c_2 (nI_ge hk18 (by decide))
    · refine lv_aload_n hx hb dX2_waitInQueues_24 rfl (lv_at hl 2 rfl) ?_
      refine lv_iload hx hb dX2_waitInQueues_25 (lv_at hl 0 rfl) ?_
      refine xg_aldP (a := a) hx hb hK hW (O.m3 hτ) k18 rfl hk18 dX2_waitInQueues_27 ?_
      refine lv_astore (lv' := [(5, .ref (a + 2 * k18 + 34)), (4, .int (nI k18)), (3, .int (nI 24)), (2, .ref (a + 3)), (1, .int (M (a + 1) 2)), (0, .ref a)]) hx hb dX2_waitInQueues_28 hl (by decide) rfl (fun ls hl => ?_)
      refine lv_aload hx hb dX2_waitInQueues_30 (lv_at hl 0 rfl) ?_
      refine xg_get (κ := 8) (ci := 4) (C := RX4) (T := TX4) (N := 12) hx hb hts inX4 hown hK hW (O.p hτ hk18) (by decide) rfl rfl 3 (by decide) (hts (.fieldLink RX2 69 "HalfTickets$Person" "where" "I") (List.mem_of_getElem? (i := 3) (by decide +kernel))) (fun _ h9 => h9) rfl dX2_waitInQueues_32 ?_
      refine lv_if_ne (tgt := 85) hx hb dX2_waitInQueues_35 (by decide) (fun c_3 => ?_) (fun c_3 => ?_)
      · refine lv_iinc (v := (nI (k18 + 1))) (lv' := [(4, .int (nI (k18 + 1))), (5, .ref (a + 2 * k18 + 34)), (3, .int (nI 24)), (2, .ref (a + 3)), (1, .int (M (a + 1) 2)), (0, .ref a)]) hx hb dX2_waitInQueues_85 hl (k := 1) rfl ((nI_1 k18)) (by decide) rfl (fun ls hl => ?_)
        refine lv_goto (tgt := 18) hx hb dX2_waitInQueues_88 (by decide) ?_
        have e1 : Z = zm_w1 a k18 Z := by unfold zm_w1; rw [if_neg c_3]
        rw [e1, eZ] at hW
        exact ih18 () _ _ _ ⟨hW, hS, lv_sub hl [0, 2, 3, 4, 5] rfl, trivial⟩
      · refine lv_aload hx hb dX2_waitInQueues_38 (lv_at hl 0 rfl) ?_
        refine lv_dup hx hb dX2_waitInQueues_40 rfl ?_
        refine xg_get (κ := 8) (ci := 4) (C := RX4) (T := TX4) (N := 12) hx hb hts inX4 hown hK hW (O.p hτ hk18) (by decide) rfl rfl 7 (by decide) (hts (.fieldLink RX2 78 "HalfTickets$Person" "waits" "I") (List.mem_of_getElem? (i := 4) (by decide +kernel))) (fun _ h9 => h9) rfl dX2_waitInQueues_41 ?_
        refine lv_iconst (v := (nI 1)) hx hb dX2_waitInQueues_44 (by decide) ?_
        refine lv_iadd hx hb dX2_waitInQueues_45 ?_
        refine xg_put (κ := 8) (ci := 4) (C := RX4) (T := TX4) (N := 12) hx hb hts inX4 tyX4 tyX4_ok nmX4 hown hK O hW hS (O.p hτ hk18) (by decide) rfl rfl 7 (by decide) (v := ((Z (a + 2 * k18 + 34) 7) + (nI 1))) rfl (xw_okp hW (O.p hτ hk18) (by decide)) (hts (.fieldLink RX2 78 "HalfTickets$Person" "waits" "I") (List.mem_of_getElem? (i := 4) (by decide +kernel))) (fun _ h9 => h9) rfl (ty := .int) (by decide +kernel) rfl rfl (Nat.le_of_ble_eq_true rfl) dX2_waitInQueues_46 (fun H locs hW hS => ?_)
        obtain ⟨M_4, eM_4⟩ : ∃ M9, M9 = xu_p Z (a + 2 * k18 + 34) 7 ((Z (a + 2 * k18 + 34) 7) + (nI 1)) := ⟨_, rfl⟩
        rw [← eM_4] at hW
        refine lv_aload hx hb dX2_waitInQueues_49 (lv_at hl 0 rfl) ?_
        refine lv_dup hx hb dX2_waitInQueues_51 rfl ?_
        refine xg_get (κ := 8) (ci := 4) (C := RX4) (T := TX4) (N := 12) hx hb hts inX4 hown hK hW (O.p hτ hk18) (by decide) rfl rfl 8 (by decide) (hts (.fieldLink RX2 125 "HalfTickets$Person" "waitsHere" "I") (List.mem_of_getElem? (i := 5) (by decide +kernel))) (fun _ h9 => h9) rfl dX2_waitInQueues_52 ?_
        refine lv_iconst (v := (nI 1)) hx hb dX2_waitInQueues_55 (by decide) ?_
        refine lv_iadd hx hb dX2_waitInQueues_56 ?_
        refine xg_put (κ := 8) (ci := 4) (C := RX4) (T := TX4) (N := 12) hx hb hts inX4 tyX4 tyX4_ok nmX4 hown hK O hW hS (O.p hτ hk18) (by decide) rfl rfl 8 (by decide) (v := ((M_4 (a + 2 * k18 + 34) 8) + (nI 1))) rfl (xw_okp hW (O.p hτ hk18) (by decide)) (hts (.fieldLink RX2 125 "HalfTickets$Person" "waitsHere" "I") (List.mem_of_getElem? (i := 5) (by decide +kernel))) (fun _ h9 => h9) rfl (ty := .int) (by decide +kernel) rfl rfl (Nat.le_of_ble_eq_true rfl) dX2_waitInQueues_57 (fun H locs hW hS => ?_)
        obtain ⟨M_5, eM_5⟩ : ∃ M9, M9 = xu_p M_4 (a + 2 * k18 + 34) 8 ((M_4 (a + 2 * k18 + 34) 8) + (nI 1)) := ⟨_, rfl⟩
        rw [← eM_5] at hW
        have e0 : M_5 = zm_w0 a k18 Z := by rw [eM_5, eM_4, xu_n _ (Or.inr (by decide))]; rfl
        have es8 : M_5 (a + 2 * k18 + 34) 8 = Z (a + 2 * k18 + 34) 8 + nI 1 := by rw [eM_5, xu_s, eM_4, xu_n _ (Or.inr (by decide))]
        have e4 : M_5 a 4 = Z a 4 := by rw [eM_5, xu_n _ (Or.inl (by omega)), eM_4, xu_n _ (Or.inl (by omega))]
        refine lv_iload_n hx hb dX2_waitInQueues_60 rfl (lv_at hl 4 rfl) ?_
        refine lv_if_eq (tgt := 85) hx hb dX2_waitInQueues_61 (by decide) (fun c_6 => ?_) (fun c_6 => ?_)
        · refine lv_iinc (v := (nI (k18 + 1))) (lv' := [(4, .int (nI (k18 + 1))), (5, .ref (a + 2 * k18 + 34)), (3, .int (nI 24)), (2, .ref (a + 3)), (1, .int (M (a + 1) 2)), (0, .ref a)]) hx hb dX2_waitInQueues_85 hl (k := 1) rfl ((nI_1 k18)) (by decide) rfl (fun ls hl => ?_)
          refine lv_goto (tgt := 18) hx hb dX2_waitInQueues_88 (by decide) ?_
          have e1 : M_5 = zm_w1 a k18 Z := by unfold zm_w1; rw [if_pos c_3, if_neg (fun z => z.1 (by rw [gs]; exact c_6))]; exact e0
          rw [e1, eZ] at hW
          exact ih18 () _ _ _ ⟨hW, hS, lv_sub hl [0, 2, 3, 4, 5] rfl, trivial⟩
        · refine lv_aload hx hb dX2_waitInQueues_64 (lv_at hl 0 rfl) ?_
          refine xg_get (κ := 8) (ci := 4) (C := RX4) (T := TX4) (N := 12) hx hb hts inX4 hown hK hW (O.p hτ hk18) (by decide) rfl rfl 8 (by decide) (hts (.fieldLink RX2 125 "HalfTickets$Person" "waitsHere" "I") (List.mem_of_getElem? (i := 5) (by decide +kernel))) (fun _ h9 => h9) rfl dX2_waitInQueues_66 ?_
          refine lv_iload_n hx hb dX2_waitInQueues_69 rfl (lv_at hl 4 rfl) ?_
          refine lv_icmp_lt (tgt := 85) hx hb dX2_waitInQueues_70 (by decide) (fun c_7 => ?_) (fun c_7 => ?_)
          · refine lv_iinc (v := (nI (k18 + 1))) (lv' := [(4, .int (nI (k18 + 1))), (5, .ref (a + 2 * k18 + 34)), (3, .int (nI 24)), (2, .ref (a + 3)), (1, .int (M (a + 1) 2)), (0, .ref a)]) hx hb dX2_waitInQueues_85 hl (k := 1) rfl ((nI_1 k18)) (by decide) rfl (fun ls hl => ?_)
            refine lv_goto (tgt := 18) hx hb dX2_waitInQueues_88 (by decide) ?_
            have e1 : M_5 = zm_w1 a k18 Z := by unfold zm_w1; rw [if_pos c_3, if_neg (fun z => z.2 (by rw [gs, ← es8]; exact c_7))]; exact e0
            rw [e1, eZ] at hW
            exact ih18 () _ _ _ ⟨hW, hS, lv_sub hl [0, 2, 3, 4, 5] rfl, trivial⟩
          · refine lv_aload_n hx hb dX2_waitInQueues_73 rfl (lv_at hl 5 rfl) ?_
            refine lv_aload hx hb dX2_waitInQueues_74 (lv_at hl 0 rfl) ?_
            refine lv_aload_n hx hb dX2_waitInQueues_76 rfl (lv_at hl 5 rfl) ?_
            refine xg_get (κ := 1) (ci := 2) (C := RX2) (T := TX2) (N := 7) hx hb hts inX2 hown hK hW hτ (by decide) rfl rfl 4 (by decide) (hts (.fieldLink RX2 56 "HalfTickets$Ministry" "ticks" "I") (List.mem_of_getElem? (i := 6) (by decide +kernel))) (fun _ h9 => h9) rfl dX2_waitInQueues_77 ?_
            refine lv_iconst (v := (nI 1)) hx hb dX2_waitInQueues_80 (by decide) ?_
            refine lv_iadd hx hb dX2_waitInQueues_81 ?_
            have hkn : k18 < nn := zi_q0 gz hk18 c_3
            have g0 : zi a M_5 nn TT GG BB := by rw [e0]; exact zi_w0 gz hkn
            have hz3 : M_5 (a + 2 * k18 + 34) 3 = nI 0 := by rw [e0]; unfold zm_w0; rw [xu_n _ (Or.inr (by decide)), xu_n _ (Or.inr (by decide))]; exact c_3
            obtain ⟨tt, mm, v, L, hat, hL, hQ⟩ := zi_wn g0 hkn hz3
            refine xc_v (xr_V (As := [.ref (a + 2 * k18 + 34), .int ((M_5 a 4) + (nI 1))]) (rest := []) (κ := 1) ⟨hx, hb, hml, hown, hts⟩ (c_X2_sendAway l O M_5 a k18 hτ hk18 ((M_5 a 4) + (nI 1)) hat hz3 hL hQ) (cwV 2 hts gX2_waitInQueues_X2_sendAway rfl rfl rfl (by decide +kernel) ⟨Nat.le_of_ble_eq_true rfl, Nat.le_of_ble_eq_true rfl⟩) hK hst hnw hS hW hτ (by decide) rfl rfl rfl hl.1 rfl (Nat.le_of_ble_eq_true rfl) dX2_waitInQueues_82 ⟨Nat.zero_le _, Nat.zero_le _⟩) hS (fun M_8 H locs hq_9 hW hS => ?_)
            refine lv_iinc (v := (nI (k18 + 1))) (lv' := [(4, .int (nI (k18 + 1))), (5, .ref (a + 2 * k18 + 34)), (3, .int (nI 24)), (2, .ref (a + 3)), (1, .int (M (a + 1) 2)), (0, .ref a)]) hx hb dX2_waitInQueues_85 hl (k := 1) rfl ((nI_1 k18)) (by decide) rfl (fun ls hl => ?_)
            refine lv_goto (tgt := 18) hx hb dX2_waitInQueues_88 (by decide) ?_
            have e1 : M_8 = zm_w1 a k18 Z := by unfold zm_w1; rw [if_pos c_3, if_pos ⟨(by rw [gs]; exact c_6), (by rw [gs, ← es8]; exact c_7)⟩, hq_9, ← e0, e4]
            rw [e1, eZ] at hW
            exact ih18 () _ _ _ ⟨hW, hS, lv_sub hl [0, 2, 3, 4, 5] rfl, trivial⟩

set_option maxHeartbeats 4000000 in
set_option maxRecDepth 100000 in
/-- tick() -/
theorem c_X2_tick (l : Launch) {G : va_G} {g : Nat → ClassId} {t0 τ : Nat → Nat} {A : Nat → Prop} (O : xk_O τ A) (M : xm_T) (a : Nat) (hτ : τ a = 1) {nn TT BB : Nat} (h : zi a M nn TT TT BB) (hB : BB + 144 < 2 ^ 31) : Met l yX2_tick wsX2_tick ({ frames := 4, cells := 0, slots := 0, locals := 120 }) (va_Pc [.ref a] (xS_t G g t0 τ A M)) (va_Qv (fun M' => M' = zm_ti a M) (fun M' t => xw_D G g τ M' t.heap) A) 0 0 A := by
  refine Met.ofW (cc := cX2_tick) (maxL := 5) (ret := none) (by decide) rfl ?_
  intro p e s m args below meth c s₁ B hml hv
  obtain ⟨rfl, hW, hK, hst, hnw⟩ := hv
  have hx := B.exec
  have hb := B.bytes
  have hr := B.returns
  have hts := atoms_spec (ws := wsX2_tick) B.pre
  have hown : s.vm.findClass RX2 = some m.cls := findClass_of_methodNamed B.named
  have hlocks := B.notSynchronized
  have hS : va_S A s.heap s.heap [] := va_S.rf
  have inX2 : ∀ w ∈ u_ws RX2 TX2 7, w ∈ wsX2_tick := by decide +kernel
  have inX4 : ∀ w ∈ u_ws RX4 TX4 12, w ∈ wsX2_tick := by decide +kernel
  have inX5 : ∀ w ∈ u_ws RX5 TX5 7, w ∈ wsX2_tick := by decide +kernel
  have hl := lv_entry ([.ref a]) (n := 5) (Nat.le_of_ble_eq_true rfl)
  rw [lg_entry_eq]
  generalize (lg_sl ([.ref a]) ++ List.replicate (5 - (lg_sl ([.ref a])).length) Slot.unset).toArray = ls at hl ⊢
  have hl : lv_has ls 5 [(0, .ref a)] := hl
  refine lv_aload_n hx hb dX2_tick_0 rfl (lv_at hl 0 rfl) ?_
  refine xg_get (κ := 1) (ci := 2) (C := RX2) (T := TX2) (N := 7) hx hb hts inX2 hown hK hW hτ (by decide) rfl rfl 2 (by decide) (hts (.fieldLink RX2 31 "HalfTickets$Ministry" "persons" "[LHalfTickets$Person;") (List.mem_of_getElem? (i := 1) (by decide +kernel))) (fun _ h9 => h9) rfl dX2_tick_1 ?_
  refine lv_astore_n (lv' := [(1, .ref (a + 3)), (0, .ref a)]) hx hb dX2_tick_4 rfl hl (by decide) rfl (fun ls hl => ?_)
  refine lv_aload_n hx hb dX2_tick_5 rfl (lv_at hl 0 rfl) ?_
  refine xg_alen (κ := 4) (v := nI 24) hx hb hK hW (O.m3 hτ) (by decide) rfl 4 rfl rfl dX2_tick_6 ?_
  refine lv_istore_n (lv' := [(2, .int (nI 24)), (1, .ref (a + 3)), (0, .ref a)]) hx hb dX2_tick_7 rfl hl (by decide) rfl (fun ls hl => ?_)
  refine lv_iconst (v := (nI 0)) hx hb dX2_tick_8 (by decide) ?_
  refine lv_istore_n (lv' := [(3, .int (nI 0)), (2, .int (nI 24)), (1, .ref (a + 3)), (0, .ref a)]) hx hb dX2_tick_9 rfl hl (by decide) rfl (fun ls hl => ?_)
  refine xl_up (σ := Unit) 24 (fun kk zz H locs ls => xw_D G g τ (zm_fo (zm_cf a) kk M) H ∧ va_S A s.heap H locs ∧ lv_has ls 5 [(3, .int (nI kk)), (2, .int (nI 24)), (1, .ref (a + 3)), (0, .ref a)] ∧ True) (fun z10 H locs ls hI => ?_) (fun k10 z10 H locs ls hk10 hI ih10 => ?_) (k0 := 0) (z0 := ()) (Nat.zero_le _) ⟨hW, hS, lv_sub hl [0, 1, 2, 3] rfl, trivial⟩
  · obtain ⟨hW, hS, hl, hE10⟩ := hI
    refine lv_iload_n hx hb dX2_tick_10 rfl (lv_at hl 0 rfl) ?_
    refine lv_iload_n hx hb dX2_tick_11 rfl (lv_at hl 1 rfl) ?_
    refine lv_icmp_ge (tgt := 32) hx hb dX2_tick_12 (by decide) (fun c_1 => ?_) (fun c_1 => ?_)
    · refine lv_aload_n hx hb dX2_tick_32 rfl (lv_at hl 3 rfl) ?_
      refine xg_get (κ := 1) (ci := 2) (C := RX2) (T := TX2) (N := 7) hx hb hts inX2 hown hK hW hτ (by decide) rfl rfl 1 (by decide) (hts (.fieldLink RX2 25 "HalfTickets$Ministry" "windows" "[LHalfTickets$Window;") (List.mem_of_getElem? (i := 3) (by decide +kernel))) (fun _ h9 => h9) rfl dX2_tick_33 ?_
      refine lv_astore_n (lv' := [(1, .ref (a + 2)), (3, .int (nI 24)), (2, .int (nI 24)), (0, .ref a)]) hx hb dX2_tick_36 rfl hl (by decide) rfl (fun ls hl => ?_)
      refine lv_aload_n hx hb dX2_tick_37 rfl (lv_at hl 0 rfl) ?_
      refine xg_alen (κ := 3) (v := nI 6) hx hb hK hW (O.m2 hτ) (by decide) rfl 3 rfl rfl dX2_tick_38 ?_
      refine lv_istore_n (lv' := [(2, .int (nI 6)), (1, .ref (a + 2)), (3, .int (nI 24)), (0, .ref a)]) hx hb dX2_tick_39 rfl hl (by decide) rfl (fun ls hl => ?_)
      refine lv_iconst (v := (nI 0)) hx hb dX2_tick_40 (by decide) ?_
      refine lv_istore_n (lv' := [(3, .int (nI 0)), (2, .int (nI 6)), (1, .ref (a + 2)), (0, .ref a)]) hx hb dX2_tick_41 rfl hl (by decide) rfl (fun ls hl => ?_)
      obtain ⟨N0, eN0⟩ : ∃ N0, N0 = zm_fo (zm_cf a) 24 M := ⟨_, rfl⟩
      rw [← eN0] at hW
      have g1 : zi a N0 nn TT (TT + 1) BB := by rw [eN0]; exact zi_t1 h
      refine xl_up (σ := Unit) 6 (fun kk zz H locs ls => xw_D G g τ (zm_fo (zm_v1 a) kk N0) H ∧ va_S A s.heap H locs ∧ lv_has ls 5 [(3, .int (nI kk)), (2, .int (nI 6)), (1, .ref (a + 2)), (0, .ref a)] ∧ True) (fun z42 H locs ls hI => ?_) (fun k42 z42 H locs ls hk42 hI ih42 => ?_) (k0 := 0) (z0 := ()) (Nat.zero_le _) ⟨hW, hS, lv_sub hl [0, 1, 2, 3] rfl, trivial⟩
      · obtain ⟨hW, hS, hl, hE42⟩ := hI
        refine lv_iload_n hx hb dX2_tick_42 rfl (lv_at hl 0 rfl) ?_
        refine lv_iload_n hx hb dX2_tick_43 rfl (lv_at hl 1 rfl) ?_
        refine lv_icmp_ge (tgt := 78) hx hb dX2_tick_44 (by decide) (fun c_2 => ?_) (fun c_2 => ?_)
        · refine lv_aload_n hx hb dX2_tick_78 rfl (lv_at hl 3 rfl) ?_
          refine xc_v (xr_V (As := []) (rest := []) (κ := 1) ⟨hx, hb, hml, hown, hts⟩ (c_X2_waitInQueues l O (zm_fo (zm_v1 a) 6 N0) a hτ (zi_t2 g1 (Nat.le_refl _) hB 6 (Nat.le_refl _)) (Nat.le_refl _)) (cwV 0 hts gX2_tick_X2_waitInQueues rfl rfl rfl (by decide +kernel) ⟨Nat.le_of_ble_eq_true rfl, Nat.le_of_ble_eq_true rfl⟩) hK hst hnw hS hW hτ (by decide) rfl rfl rfl hl.1 rfl (Nat.le_of_ble_eq_true rfl) dX2_tick_79 ⟨Nat.zero_le _, Nat.zero_le _⟩) hS (fun M_3 H locs hq_4 hW hS => ?_)
          refine lv_aload_n hx hb dX2_tick_82 rfl (lv_at hl 3 rfl) ?_
          refine lv_dup hx hb dX2_tick_83 rfl ?_
          refine xg_get (κ := 1) (ci := 2) (C := RX2) (T := TX2) (N := 7) hx hb hts inX2 hown hK hW hτ (by decide) rfl rfl 4 (by decide) (hts (.fieldLink RX2 56 "HalfTickets$Ministry" "ticks" "I") (List.mem_of_getElem? (i := 5) (by decide +kernel))) (fun _ h9 => h9) rfl dX2_tick_84 ?_
          refine lv_iconst (v := (nI 1)) hx hb dX2_tick_87 (by decide) ?_
          refine lv_iadd hx hb dX2_tick_88 ?_
          refine xg_put (κ := 1) (ci := 2) (C := RX2) (T := TX2) (N := 7) hx hb hts inX2 tyX2 tyX2_ok nmX2 hown hK O hW hS hτ (by decide) rfl rfl 4 (by decide) (v := ((M_3 a 4) + (nI 1))) rfl trivial (hts (.fieldLink RX2 56 "HalfTickets$Ministry" "ticks" "I") (List.mem_of_getElem? (i := 5) (by decide +kernel))) (fun _ h9 => h9) rfl (ty := .int) (by decide +kernel) rfl rfl (Nat.le_of_ble_eq_true rfl) dX2_tick_89 (fun H locs hW hS => ?_)
          obtain ⟨M_6, eM_6⟩ : ∃ M9, M9 = xu_p M_3 a 4 ((M_3 a 4) + (nI 1)) := ⟨_, rfl⟩
          rw [← eM_6] at hW
          exact W.vret hx hb hr (fun t ht hWm => ⟨⟨M_6, rfl, (by rw [eM_6, hq_4]; unfold zm_ti zm_t0; rw [eN0]), xw_end ht hW⟩, hS.F ht⟩) hS.2.2 dX2_tick_92
        · exact absurd (nI_le (Nat.le_refl _) (by decide)) c_2
      · obtain ⟨hW, hS, hl, hE42⟩ := hI
        obtain ⟨Z, eZ⟩ : ∃ Z, Z = zm_fo (zm_v1 a) k42 N0 := ⟨_, rfl⟩
        rw [← eZ] at hW
        have gz : zi a Z nn TT (TT + 1) (BB + 24 * k42) := by rw [eZ]; exact zi_t2 g1 (Nat.le_refl _) hB k42 (by omega)
        refine lv_iload_n hx hb dX2_tick_42 rfl (lv_at hl 0 rfl) ?_
        refine lv_iload_n hx hb dX2_tick_43 rfl (lv_at hl 1 rfl) ?_
        refine lv_icmp_ge (tgt := 78) hx hb dX2_tick_44 (by decide) (fun c_7 => ?_) (fun c_7 => ?_)
        · exact absurd c_7 (nI_ge hk42 (by decide))
        · refine lv_aload_n hx hb dX2_tick_47 rfl (lv_at hl 2 rfl) ?_
          refine lv_iload_n hx hb dX2_tick_48 rfl (lv_at hl 0 rfl) ?_
          refine xg_aldW (a := a) hx hb hK hW (O.m2 hτ) k42 rfl hk42 dX2_tick_49 ?_
          refine lv_astore (lv' := [(4, .ref (a + 5 * k42 + 4)), (3, .int (nI k42)), (2, .int (nI 6)), (1, .ref (a + 2)), (0, .ref a)]) hx hb dX2_tick_50 hl (by decide) rfl (fun ls hl => ?_)
          refine lv_aload hx hb dX2_tick_52 (lv_at hl 0 rfl) ?_
          refine xg_get (κ := 5) (ci := 5) (C := RX5) (T := TX5) (N := 7) hx hb hts inX5 hown hK hW (O.w hτ hk42) (by decide) rfl rfl 0 (by decide) (hts (.fieldLink RX2 65 "HalfTickets$Window" "isOpen" "Z") (List.mem_of_getElem? (i := 4) (by decide +kernel))) (fun _ h9 => h9) rfl dX2_tick_54 ?_
          refine lv_if_eq (tgt := 72) hx hb dX2_tick_57 (by decide) (fun c_8 => ?_) (fun c_8 => ?_)
          · refine lv_iinc (v := (nI (k42 + 1))) (lv' := [(3, .int (nI (k42 + 1))), (4, .ref (a + 5 * k42 + 4)), (2, .int (nI 6)), (1, .ref (a + 2)), (0, .ref a)]) hx hb dX2_tick_72 hl (k := 1) rfl ((nI_1 k42)) (by decide) rfl (fun ls hl => ?_)
            refine lv_goto (tgt := 42) hx hb dX2_tick_75 (by decide) ?_
            have e1 : Z = zm_v1 a k42 Z := by unfold zm_v1; rw [if_pos c_8]
            rw [e1, eZ] at hW
            exact ih42 () _ _ _ ⟨hW, hS, lv_sub hl [0, 2, 3, 4] rfl, trivial⟩
          · refine lv_aload_n hx hb dX2_tick_60 rfl (lv_at hl 4 rfl) ?_
            refine lv_aload hx hb dX2_tick_61 (lv_at hl 0 rfl) ?_
            refine xc_v (xr_V (As := [.ref (a + 5 * k42 + 4)]) (rest := []) (κ := 1) ⟨hx, hb, hml, hown, hts⟩ (c_X2_serveAt l O Z a k42 hτ gz (Nat.le_refl _) (by omega) hk42) (cwV 1 hts gX2_tick_X2_serveAt rfl rfl rfl (by decide +kernel) ⟨Nat.le_of_ble_eq_true rfl, Nat.le_of_ble_eq_true rfl⟩) hK hst hnw hS hW hτ (by decide) rfl rfl rfl hl.1 rfl (Nat.le_of_ble_eq_true rfl) dX2_tick_63 ⟨Nat.zero_le _, Nat.zero_le _⟩) hS (fun M_9 H locs hq_10 hW hS => ?_)
            have gv : zi a M_9 nn TT (TT + 1) (BB + 24 * k42 + 24) := by rw [hq_10]; exact zi_sv gz (Nat.le_refl _) (by omega) hk42
            refine lv_aload_n hx hb dX2_tick_66 rfl (lv_at hl 4 rfl) ?_
            refine lv_aload hx hb dX2_tick_67 (lv_at hl 0 rfl) ?_
            refine xc_v (xr_V (As := [.ref (a + 5 * k42 + 4)]) (rest := []) (κ := 1) ⟨hx, hb, hml, hown, hts⟩ (c_X2_callAt l O M_9 a k42 hτ gv hk42) (cwV 1 hts gX2_tick_X2_callAt rfl rfl rfl (by decide +kernel) ⟨Nat.le_of_ble_eq_true rfl, Nat.le_of_ble_eq_true rfl⟩) hK hst hnw hS hW hτ (by decide) rfl rfl rfl hl.1 rfl (Nat.le_of_ble_eq_true rfl) dX2_tick_69 ⟨Nat.zero_le _, Nat.zero_le _⟩) hS (fun M_12 H locs hq_13 hW hS => ?_)
            refine lv_iinc (v := (nI (k42 + 1))) (lv' := [(3, .int (nI (k42 + 1))), (4, .ref (a + 5 * k42 + 4)), (2, .int (nI 6)), (1, .ref (a + 2)), (0, .ref a)]) hx hb dX2_tick_72 hl (k := 1) rfl ((nI_1 k42)) (by decide) rfl (fun ls hl => ?_)
            refine lv_goto (tgt := 42) hx hb dX2_tick_75 (by decide) ?_
            have e1 : M_12 = zm_v1 a k42 Z := by unfold zm_v1; rw [if_neg c_8, hq_13, hq_10]
            rw [e1, eZ] at hW
            exact ih42 () _ _ _ ⟨hW, hS, lv_sub hl [0, 2, 3, 4] rfl, trivial⟩
    · exact absurd (nI_le (Nat.le_refl _) (by decide)) c_1
  · obtain ⟨hW, hS, hl, hE10⟩ := hI
    refine lv_iload_n hx hb dX2_tick_10 rfl (lv_at hl 0 rfl) ?_
    refine lv_iload_n hx hb dX2_tick_11 rfl (lv_at hl 1 rfl) ?_
    refine lv_icmp_ge (tgt := 32) hx hb dX2_tick_12 (by decide) (fun c_15 => ?_) (fun c_15 => ?_)
    · exact absurd c_15 (nI_ge hk10 (by decide))
    · refine lv_aload_n hx hb dX2_tick_15 rfl (lv_at hl 2 rfl) ?_
      refine lv_iload_n hx hb dX2_tick_16 rfl (lv_at hl 0 rfl) ?_
      refine xg_aldP (a := a) hx hb hK hW (O.m3 hτ) k10 rfl hk10 dX2_tick_17 ?_
      refine lv_astore (lv' := [(4, .ref (a + 2 * k10 + 34)), (3, .int (nI k10)), (2, .int (nI 24)), (1, .ref (a + 3)), (0, .ref a)]) hx hb dX2_tick_18 hl (by decide) rfl (fun ls hl => ?_)
      refine lv_aload hx hb dX2_tick_20 (lv_at hl 0 rfl) ?_
      refine lv_iconst (v := (nI 0)) hx hb dX2_tick_22 (by decide) ?_
      refine xg_put (κ := 8) (ci := 4) (C := RX4) (T := TX4) (N := 12) hx hb hts inX4 tyX4 tyX4_ok nmX4 hown hK O hW hS (O.p hτ hk10) (by decide) rfl rfl 11 (by decide) (v := (nI 0)) rfl ⟨(xw_okp hW (O.p hτ hk10) (by decide)).1, xb_0⟩ (hts (.fieldLink RX2 138 "HalfTickets$Person" "cameInThisTick" "Z") (List.mem_of_getElem? (i := 2) (by decide +kernel))) (fun _ h9 => h9) rfl (ty := .boolean) (by decide +kernel) (xb_nar xb_0) (xb_fit xb_0) (Nat.le_of_ble_eq_true rfl) dX2_tick_23 (fun H locs hW hS => ?_)
      obtain ⟨M_16, eM_16⟩ : ∃ M9, M9 = xu_p (zm_fo (zm_cf a) k10 M) (a + 2 * k10 + 34) 11 (nI 0) := ⟨_, rfl⟩
      rw [← eM_16] at hW
      refine lv_iinc (v := (nI (k10 + 1))) (lv' := [(3, .int (nI (k10 + 1))), (4, .ref (a + 2 * k10 + 34)), (2, .int (nI 24)), (1, .ref (a + 3)), (0, .ref a)]) hx hb dX2_tick_26 hl (k := 1) rfl ((nI_1 k10)) (by decide) rfl (fun ls hl => ?_)
      refine lv_goto (tgt := 10) hx hb dX2_tick_29 (by decide) ?_
      rw [eM_16] at hW
      exact ih10 () _ _ _ ⟨hW, hS, lv_sub hl [0, 2, 3, 4] rfl, trivial⟩
