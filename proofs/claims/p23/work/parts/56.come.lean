/-! PEOPLE COME -/

set_option maxHeartbeats 4000000 in
set_option maxRecDepth 100000 in
/-- one person comes -/
theorem c_X2_come (l : Launch) {G : va_G} {g : Nat → ClassId} {t0 τ : Nat → Nat} {A : Nat → Prop} (O : xk_O τ A) (M : xm_T) (a d : Nat) (hτ : τ a = 1) (hd : τ d = 14) (hda : d + 2 ≤ a ∨ a + 82 ≤ d) {nn TT GG BB : Nat} (h : zi a M nn TT GG BB) (hn : nn < 24) {L NN : Nat} {em : Nat → Nat} {ee : Nat → Nat → Nat} (hL : L ≤ 60) (hM : M d 1 = nI L) (hz : zt (M (d + 1)) L em ee) (hv : zt_v NN em ee) (hN : L + 1 = zt_s em NN) {kq : Nat} (hkq : kq < NN) : Met l yX2_admit wsX2_admit ({ frames := 2, cells := 0, slots := 0, locals := 60 }) (va_Pc [.ref a, .ref d, .int (nI (zt_s em kq)), .int (nI (zt_s em kq + em kq))] (xS_t G g t0 τ A M)) (va_Qv (fun M' => M' = zm_ad a (em kq) (fun j => nI (ee kq j)) M) (fun M' t => xw_D G g τ M' t.heap) A) 0 0 A := by
  refine Met.ofW (cc := cX2_admit) (maxL := 6) (ret := none) (by decide) rfl ?_
  intro p e s m args below meth c s₁ B hml hv
  obtain ⟨rfl, hW, hK, hst, hnw⟩ := hv
  have hx := B.exec
  have hb := B.bytes
  have hr := B.returns
  have hts := atoms_spec (ws := wsX2_admit) B.pre
  have hown : s.vm.findClass RX2 = some m.cls := findClass_of_methodNamed B.named
  have hlocks := B.notSynchronized
  have hS : va_S A s.heap s.heap [] := va_S.rf
  have inX2 : ∀ w ∈ u_ws RX2 TX2 7, w ∈ wsX2_admit := by decide +kernel
  have hl := lv_entry ([.ref a, .ref d, .int (nI (zt_s em kq)), .int (nI (zt_s em kq + em kq))]) (n := 6) (Nat.le_of_ble_eq_true rfl)
  rw [lg_entry_eq]
  generalize (lg_sl ([.ref a, .ref d, .int (nI (zt_s em kq)), .int (nI (zt_s em kq + em kq))]) ++ List.replicate (6 - (lg_sl ([.ref a, .ref d, .int (nI (zt_s em kq)), .int (nI (zt_s em kq + em kq))])).length) Slot.unset).toArray = ls at hl ⊢
  have hl : lv_has ls 6 [(0, .ref a), (1, .ref d), (2, .int (nI (zt_s em kq))), (3, .int (nI (zt_s em kq + em kq)))] := hl
  have v0 := hv kq hkq
  obtain ⟨f2, f3, f4, f5, f7, f9, f10⟩ := h.2.2.1 nn (Nat.le_refl nn) hn
  refine lv_aload_n hx hb dX2_admit_0 rfl (lv_at hl 0 rfl) ?_
  refine xg_get (κ := 1) (ci := 2) (C := RX2) (T := TX2) (N := 7) hx hb hts inX2 hown hK hW hτ (by decide) rfl rfl 3 (by decide) (hts (.fieldLink RX2 52 "HalfTickets$Ministry" "people" "I") (List.mem_of_getElem? (i := 1) (by decide +kernel))) (fun _ h9 => h9) rfl dX2_admit_1 ?_
  refine lv_aload_n hx hb dX2_admit_4 rfl (lv_at hl 0 rfl) ?_
  refine xg_get (κ := 1) (ci := 2) (C := RX2) (T := TX2) (N := 7) hx hb hts inX2 hown hK hW hτ (by decide) rfl rfl 2 (by decide) (hts (.fieldLink RX2 31 "HalfTickets$Ministry" "persons" "[LHalfTickets$Person;") (List.mem_of_getElem? (i := 2) (by decide +kernel))) (fun _ h9 => h9) rfl dX2_admit_5 ?_
  refine xg_alen (κ := 4) (v := nI 24) hx hb hK hW (O.m3 hτ) (by decide) rfl 4 rfl rfl dX2_admit_8 ?_
  refine lv_icmp_lt (tgt := 13) hx hb dX2_admit_9 (by decide) (fun c_1 => ?_) (fun c_1 => ?_)
  · refine lv_aload_n hx hb dX2_admit_13 rfl (lv_at hl 0 rfl) ?_
    refine xg_get (κ := 1) (ci := 2) (C := RX2) (T := TX2) (N := 7) hx hb hts inX2 hown hK hW hτ (by decide) rfl rfl 2 (by decide) (hts (.fieldLink RX2 31 "HalfTickets$Ministry" "persons" "[LHalfTickets$Person;") (List.mem_of_getElem? (i := 2) (by decide +kernel))) (fun _ h9 => h9) rfl dX2_admit_14 ?_
    refine lv_aload_n hx hb dX2_admit_17 rfl (lv_at hl 0 rfl) ?_
    refine xg_get (κ := 1) (ci := 2) (C := RX2) (T := TX2) (N := 7) hx hb hts inX2 hown hK hW hτ (by decide) rfl rfl 3 (by decide) (hts (.fieldLink RX2 52 "HalfTickets$Ministry" "people" "I") (List.mem_of_getElem? (i := 1) (by decide +kernel))) (fun _ h9 => h9) rfl dX2_admit_18 ?_
    refine xg_aldP (a := a) hx hb hK hW (O.m3 hτ) nn h.1.2.1 hn dX2_admit_21 ?_
    refine lv_astore (lv' := [(4, .ref (a + 2 * nn + 34)), (0, .ref a), (1, .ref d), (2, .int (nI (zt_s em kq))), (3, .int (nI (zt_s em kq + em kq)))]) hx hb dX2_admit_22 hl (by decide) rfl (fun ls hl => ?_)
    refine lv_aload_n hx hb dX2_admit_24 rfl (lv_at hl 1 rfl) ?_
    refine lv_dup hx hb dX2_admit_25 rfl ?_
    refine xg_get (κ := 1) (ci := 2) (C := RX2) (T := TX2) (N := 7) hx hb hts inX2 hown hK hW hτ (by decide) rfl rfl 3 (by decide) (hts (.fieldLink RX2 52 "HalfTickets$Ministry" "people" "I") (List.mem_of_getElem? (i := 1) (by decide +kernel))) (fun _ h9 => h9) rfl dX2_admit_26 ?_
    refine lv_iconst (v := (nI 1)) hx hb dX2_admit_29 (by decide) ?_
    refine lv_iadd hx hb dX2_admit_30 ?_
    refine xg_put (κ := 1) (ci := 2) (C := RX2) (T := TX2) (N := 7) hx hb hts inX2 tyX2 tyX2_ok nmX2 hown hK O hW hS hτ (by decide) rfl rfl 3 (by decide) (v := ((M a 3) + (nI 1))) rfl trivial (hts (.fieldLink RX2 52 "HalfTickets$Ministry" "people" "I") (List.mem_of_getElem? (i := 1) (by decide +kernel))) (fun _ h9 => h9) rfl (ty := .int) (by decide +kernel) rfl rfl (Nat.le_of_ble_eq_true rfl) dX2_admit_31 (fun H locs hW hS => ?_)
    obtain ⟨M_2, eM_2⟩ : ∃ M9, M9 = xu_p M a 3 ((M a 3) + (nI 1)) := ⟨_, rfl⟩
    rw [← eM_2] at hW
    refine lv_iload_n hx hb dX2_admit_34 rfl (lv_at hl 3 rfl) ?_
    refine lv_istore (lv' := [(5, .int (nI (zt_s em kq))), (4, .ref (a + 2 * nn + 34)), (0, .ref a), (1, .ref d), (2, .int (nI (zt_s em kq))), (3, .int (nI (zt_s em kq + em kq)))]) hx hb dX2_admit_35 hl (by decide) rfl (fun ls hl => ?_)
    have o1 : ∀ x, x ≠ a → M_2 x = M x := fun x hx => by rw [eM_2]; exact xr_n _ _ hx
    replace hW : xw_D G g τ (zm_a1 M_2 (a + 2 * nn + 34) 0 (fun j => nI (ee kq j))) H := by rw [zm_a1_0 (by rw [o1 _ (by omega)]; exact f2)]; exact hW
    have hzd : ∀ k, zm_a1 M_2 (a + 2 * nn + 34) k (fun j => nI (ee kq j)) d = M d ∧ zm_a1 M_2 (a + 2 * nn + 34) k (fun j => nI (ee kq j)) (d + 1) = M (d + 1) := fun k => ⟨by rw [zm_a1_o (by omega) (by omega), o1 _ (by omega)], by rw [zm_a1_o (by omega) (by omega), o1 _ (by omega)]⟩
    refine xl_up (σ := Unit) (em kq) (fun kk zz H locs ls => xw_D G g τ (zm_a1 M_2 (a + 2 * nn + 34) kk (fun j => nI (ee kq j))) H ∧ va_S A s.heap H locs ∧ lv_has ls 6 [(5, .int (nI (zt_s em kq + kk))), (4, .ref (a + 2 * nn + 34)), (0, .ref a), (1, .ref d), (3, .int (nI (zt_s em kq + em kq)))] ∧ True) (fun z37 H locs ls hI => ?_) (fun k37 z37 H locs ls hk37 hI ih37 => ?_) (k0 := 0) (z0 := ()) (Nat.zero_le _) ⟨hW, hS, lv_sub hl [0, 1, 2, 3, 5] rfl, trivial⟩
    · obtain ⟨hW, hS, hl, hE37⟩ := hI
      refine lv_iload hx hb dX2_admit_37 (lv_at hl 0 rfl) ?_
      refine lv_iload_n hx hb dX2_admit_39 rfl (lv_at hl 4 rfl) ?_
      refine lv_icmp_ge (tgt := 60) hx hb dX2_admit_40 (by decide) (fun c_3 => ?_) (fun c_3 => ?_)
      · have hle := zt_s_le (m := em) hkq
        refine lv_aload_n hx hb dX2_admit_60 rfl (lv_at hl 2 rfl) ?_
        refine lv_aload hx hb dX2_admit_61 (lv_at hl 1 rfl) ?_
        obtain ⟨L2, hL2, hQ⟩ := zi_an h hn (ee kq 0) (v0.2.2.1 0 (by omega))
        have hat : zk_at (zm_a1 M_2 (a + 2 * nn + 34) (em kq) (fun j => nI (ee kq j))) (a + 2 * nn + 34) 0 (em kq) (ee kq 0) := ⟨zm_a1_2, by rw [zm_a1_p (by decide), o1 _ (by omega)]; exact f4, by omega, v0.2.1, zm_a1_e (by omega), v0.2.2.1 0 (by omega)⟩
        have hQ2 : (zm_a1 M_2 (a + 2 * nn + 34) (em kq) (fun j => nI (ee kq j))) (a + 5 * (ee kq 0) + 5) 1 = nI L2 := by have h6 := v0.2.2.1 0 (by omega); rw [zm_a1_o (by omega) (by omega), o1 _ (by omega)]; exact hQ
        refine xc_v (xr_V (As := [.ref (a + 2 * nn + 34)]) (rest := []) (κ := 1) ⟨hx, hb, hml, hown, hts⟩ (c_X2_joinQueue l O (zm_a1 M_2 (a + 2 * nn + 34) (em kq) (fun j => nI (ee kq j))) a nn hτ hn hat hL2 hQ2) (cwV 1 hts gX2_admit_X2_joinQueue rfl rfl rfl (by decide +kernel) ⟨Nat.le_of_ble_eq_true rfl, Nat.le_of_ble_eq_true rfl⟩) hK hst hnw hS hW hτ (by decide) rfl rfl rfl hl.1 rfl (Nat.le_of_ble_eq_true rfl) dX2_admit_63 ⟨Nat.zero_le _, Nat.zero_le _⟩) hS (fun M_4 H locs hq_5 hW hS => ?_)
        exact W.vret hx hb hr (fun t ht hWm => ⟨⟨M_4, rfl, (by rw [hq_5, eM_2, zm_a1_a]; unfold zm_ad; rw [h.1.2.1, nI_clamp (by omega), if_pos hn]), xw_end ht hW⟩, hS.F ht⟩) hS.2.2 dX2_admit_66
      · have hle := zt_s_le (m := em) hkq
        exact absurd (nI_le (Nat.le_refl _) (by omega)) c_3
    · obtain ⟨hW, hS, hl, hE37⟩ := hI
      refine lv_iload hx hb dX2_admit_37 (lv_at hl 0 rfl) ?_
      refine lv_iload_n hx hb dX2_admit_39 rfl (lv_at hl 4 rfl) ?_
      refine lv_icmp_ge (tgt := 60) hx hb dX2_admit_40 (by decide) (fun c_7 => ?_) (fun c_7 => ?_)
      · have hle := zt_s_le (m := em) hkq
        exact absurd c_7 (nI_ge (by omega) (by omega))
      · have hle := zt_s_le (m := em) hkq
        refine lv_aload hx hb dX2_admit_43 (lv_at hl 1 rfl) ?_
        refine lv_aload_n hx hb dX2_admit_45 rfl (lv_at hl 3 rfl) ?_
        refine lv_iload hx hb dX2_admit_46 (lv_at hl 0 rfl) ?_
        refine xc_i (xr_V (As := [.int (nI (zt_s em kq + k37))]) (rest := [.ref (a + 2 * nn + 34)]) (κ := 14) ⟨hx, hb, hml, hown, hts⟩ (c_X3_windowAt l O (zm_a1 M_2 (a + 2 * nn + 34) k37 (fun j => nI (ee kq j))) d hd hL (by rw [(hzd _).1]; exact hM) (by rw [(hzd _).2]; exact hz) hv hN hkq hk37) (cwV 1 hts gX2_admit_X3_windowAt rfl rfl rfl (by decide +kernel) ⟨Nat.le_of_ble_eq_true rfl, Nat.le_of_ble_eq_true rfl⟩) hK hst hnw hS hW hd (by decide) rfl rfl rfl hl.1 rfl (Nat.le_of_ble_eq_true rfl) dX2_admit_48 ⟨Nat.zero_le _, Nat.zero_le _⟩) hS (fun r_10 M_8 H locs hq_9 hW hS => ?_)
        obtain ⟨hq_9a, hq_9b⟩ := hq_9
        rw [hq_9b] at hW
        rw [hq_9a]
        refine xc_v (xr_V (As := [.int (nI (ee kq k37))]) (rest := []) (κ := 8) ⟨hx, hb, hml, hown, hts⟩ (c_X4_addToErrand l O (zm_a1 M_2 (a + 2 * nn + 34) k37 (fun j => nI (ee kq j))) (a + 2 * nn + 34) (O.p hτ hn) (nI (ee kq k37)) zm_a1_2 (by omega)) (cwV 1 hts gX2_admit_X4_addToErrand rfl rfl rfl (by decide +kernel) ⟨Nat.le_of_ble_eq_true rfl, Nat.le_of_ble_eq_true rfl⟩) hK hst hnw hS hW (O.p hτ hn) (by decide) rfl rfl rfl hl.1 rfl (Nat.le_of_ble_eq_true rfl) dX2_admit_51 ⟨Nat.zero_le _, Nat.zero_le _⟩) hS (fun M_11 H locs hq_12 hW hS => ?_)
        refine lv_iinc (v := (nI ((zt_s em kq + k37) + 1))) (lv' := [(5, .int (nI ((zt_s em kq + k37) + 1))), (4, .ref (a + 2 * nn + 34)), (0, .ref a), (1, .ref d), (3, .int (nI (zt_s em kq + em kq)))]) hx hb dX2_admit_54 hl (k := 0) rfl ((nI_1 (zt_s em kq + k37))) (by decide) rfl (fun ls hl => ?_)
        refine lv_goto (tgt := 37) hx hb dX2_admit_57 (by decide) ?_
        have e2 : M_11 = zm_a1 M_2 (a + 2 * nn + 34) (k37 + 1) (fun j => nI (ee kq j)) := by rw [hq_12]; exact zm_a1_1
        rw [e2] at hW
        exact ih37 () _ _ _ ⟨hW, hS, lv_sub hl [0, 1, 2, 3, 4] rfl, trivial⟩
  · exact absurd (by rw [h.1.2.1]; exact nI_lt hn (by omega)) c_1

set_option maxHeartbeats 4000000 in
set_option maxRecDepth 100000 in
/-- the people of the pad come -/
theorem c_X2_comeAll (l : Launch) {G : va_G} {g : Nat → ClassId} {t0 τ : Nat → Nat} {A : Nat → Prop} (O : xk_O τ A) (M : xm_T) (a d : Nat) (hτ : τ a = 1) (hd : τ d = 14) (hda : d + 2 ≤ a ∨ a + 82 ≤ d) {nn TT GG BB : Nat} (h : zi a M nn TT GG BB) {L NN : Nat} {em : Nat → Nat} {ee : Nat → Nat → Nat} (hL : L ≤ 60) (hM : M d 1 = nI L) (hz : zt (M (d + 1)) L em ee) (hv : zt_v NN em ee) (hN : L + 1 = zt_s em NN) (hnn : nn + NN ≤ 24) : Met l yX2_admitAll wsX2_admitAll ({ frames := 3, cells := 0, slots := 0, locals := 90 }) (va_Pc [.ref a, .ref d] (xS_t G g t0 τ A M)) (va_Qv (fun M' => M' = zm_al a em ee NN M) (fun M' t => xw_D G g τ M' t.heap) A) 0 0 A := by
  refine Met.ofW (cc := cX2_admitAll) (maxL := 6) (ret := none) (by decide) rfl ?_
  intro p e s m args below meth c s₁ B hml hv
  obtain ⟨rfl, hW, hK, hst, hnw⟩ := hv
  have hx := B.exec
  have hb := B.bytes
  have hr := B.returns
  have hts := atoms_spec (ws := wsX2_admitAll) B.pre
  have hown : s.vm.findClass RX2 = some m.cls := findClass_of_methodNamed B.named
  have hlocks := B.notSynchronized
  have hS : va_S A s.heap s.heap [] := va_S.rf
  have hl := lv_entry ([.ref a, .ref d]) (n := 6) (Nat.le_of_ble_eq_true rfl)
  rw [lg_entry_eq]
  generalize (lg_sl ([.ref a, .ref d]) ++ List.replicate (6 - (lg_sl ([.ref a, .ref d])).length) Slot.unset).toArray = ls at hl ⊢
  have hl : lv_has ls 6 [(0, .ref a), (1, .ref d)] := hl
  have hpd : ∀ k, zm_al a em ee k M d = M d ∧ zm_al a em ee k M (d + 1) = M (d + 1) := fun k => ⟨zo_al k _ (by omega), zo_al k _ (by omega)⟩
  refine lv_aload_n hx hb dX2_admitAll_0 rfl (lv_at hl 1 rfl) ?_
  refine xc_i (xr_V (As := []) (rest := []) (κ := 14) ⟨hx, hb, hml, hown, hts⟩ (c_X3_errands l O M d hd hL hM hz hv hN) (cwV 0 hts gX2_admitAll_X3_errands rfl rfl rfl (by decide +kernel) ⟨Nat.le_of_ble_eq_true rfl, Nat.le_of_ble_eq_true rfl⟩) hK hst hnw hS hW hd (by decide) rfl rfl rfl hl.1 rfl (Nat.le_of_ble_eq_true rfl) dX2_admitAll_1 ⟨Nat.zero_le _, Nat.zero_le _⟩) hS (fun r_3 M_1 H locs hq_2 hW hS => ?_)
  obtain ⟨hq_2a, hq_2b⟩ := hq_2
  rw [hq_2b] at hW
  rw [hq_2a]
  refine lv_istore_n (lv' := [(2, .int (nI NN)), (0, .ref a), (1, .ref d)]) hx hb dX2_admitAll_4 rfl hl (by decide) rfl (fun ls hl => ?_)
  refine lv_iconst (v := (nI 0)) hx hb dX2_admitAll_5 (by decide) ?_
  refine lv_istore_n (lv' := [(3, .int (nI 0)), (2, .int (nI NN)), (0, .ref a), (1, .ref d)]) hx hb dX2_admitAll_6 rfl hl (by decide) rfl (fun ls hl => ?_)
  refine lv_iconst (v := (nI 0)) hx hb dX2_admitAll_7 (by decide) ?_
  refine lv_istore (lv' := [(4, .int (nI 0)), (3, .int (nI 0)), (2, .int (nI NN)), (0, .ref a), (1, .ref d)]) hx hb dX2_admitAll_8 hl (by decide) rfl (fun ls hl => ?_)
  refine xl_up (σ := Unit) NN (fun kk zz H locs ls => xw_D G g τ (zm_al a em ee kk M) H ∧ va_S A s.heap H locs ∧ lv_has ls 6 [(4, .int (nI kk)), (3, .int (nI (zt_s em kk))), (2, .int (nI NN)), (0, .ref a), (1, .ref d)] ∧ True) (fun z10 H locs ls hI => ?_) (fun k10 z10 H locs ls hk10 hI ih10 => ?_) (k0 := 0) (z0 := ()) (Nat.zero_le _) ⟨hW, hS, lv_sub hl [0, 1, 2, 3, 4] rfl, trivial⟩
  · obtain ⟨hW, hS, hl, hE10⟩ := hI
    refine lv_iload hx hb dX2_admitAll_10 (lv_at hl 0 rfl) ?_
    refine lv_iload_n hx hb dX2_admitAll_12 rfl (lv_at hl 2 rfl) ?_
    refine lv_icmp_ge (tgt := 42) hx hb dX2_admitAll_13 (by decide) (fun c_4 => ?_) (fun c_4 => ?_)
    · exact W.vret hx hb hr (fun t ht hWm => ⟨⟨(zm_al a em ee NN M), rfl, rfl, xw_end ht hW⟩, hS.F ht⟩) hS.2.2 dX2_admitAll_42
    · exact absurd (nI_le (Nat.le_refl _) (by omega)) c_4
  · obtain ⟨hW, hS, hl, hE10⟩ := hI
    refine lv_iload hx hb dX2_admitAll_10 (lv_at hl 0 rfl) ?_
    refine lv_iload_n hx hb dX2_admitAll_12 rfl (lv_at hl 2 rfl) ?_
    refine lv_icmp_ge (tgt := 42) hx hb dX2_admitAll_13 (by decide) (fun c_5 => ?_) (fun c_5 => ?_)
    · exact absurd c_5 (nI_ge hk10 (by omega))
    · refine lv_aload_n hx hb dX2_admitAll_16 rfl (lv_at hl 4 rfl) ?_
      refine lv_iload_n hx hb dX2_admitAll_17 rfl (lv_at hl 1 rfl) ?_
      refine xc_i (xr_V (As := [.int (nI (zt_s em k10))]) (rest := []) (κ := 14) ⟨hx, hb, hml, hown, hts⟩ (c_X3_endOfErrand l O (zm_al a em ee k10 M) d hd hL (by rw [(hpd _).1]; exact hM) (by rw [(hpd _).2]; exact hz) hv hN hk10) (cwV 1 hts gX2_admitAll_X3_endOfErrand rfl rfl rfl (by decide +kernel) ⟨Nat.le_of_ble_eq_true rfl, Nat.le_of_ble_eq_true rfl⟩) hK hst hnw hS hW hd (by decide) rfl rfl rfl hl.1 rfl (Nat.le_of_ble_eq_true rfl) dX2_admitAll_18 ⟨Nat.zero_le _, Nat.zero_le _⟩) hS (fun r_8 M_6 H locs hq_7 hW hS => ?_)
      obtain ⟨hq_7a, hq_7b⟩ := hq_7
      rw [hq_7b] at hW
      rw [hq_7a]
      refine lv_istore (lv' := [(5, .int (nI (zt_s em k10 + em k10))), (4, .int (nI k10)), (3, .int (nI (zt_s em k10))), (2, .int (nI NN)), (0, .ref a), (1, .ref d)]) hx hb dX2_admitAll_21 hl (by decide) rfl (fun ls hl => ?_)
      refine lv_aload_n hx hb dX2_admitAll_23 rfl (lv_at hl 4 rfl) ?_
      refine lv_aload_n hx hb dX2_admitAll_24 rfl (lv_at hl 5 rfl) ?_
      refine lv_iload_n hx hb dX2_admitAll_25 rfl (lv_at hl 2 rfl) ?_
      refine lv_iload hx hb dX2_admitAll_26 (lv_at hl 0 rfl) ?_
      refine xc_v (xr_V (As := [.ref d, .int (nI (zt_s em k10)), .int (nI (zt_s em k10 + em k10))]) (rest := []) (κ := 1) ⟨hx, hb, hml, hown, hts⟩ (c_X2_come l O (zm_al a em ee k10 M) a d hτ hd hda (zi_al h k10 (fun k hk => hv k (by omega)) (by omega)) (by omega) hL (by rw [(hpd _).1]; exact hM) (by rw [(hpd _).2]; exact hz) hv hN hk10) (cwV 3 hts gX2_admitAll_X2_admit rfl rfl rfl (by decide +kernel) ⟨Nat.le_of_ble_eq_true rfl, Nat.le_of_ble_eq_true rfl⟩) hK hst hnw hS hW hτ (by decide) rfl rfl rfl hl.1 rfl (Nat.le_of_ble_eq_true rfl) dX2_admitAll_28 ⟨Nat.zero_le _, Nat.zero_le _⟩) hS (fun M_9 H locs hq_10 hW hS => ?_)
      refine lv_iload hx hb dX2_admitAll_31 (lv_at hl 0 rfl) ?_
      refine lv_iconst (v := (nI 1)) hx hb dX2_admitAll_33 (by decide) ?_
      refine lv_iadd hx hb dX2_admitAll_34 ?_
      rw [show nI (zt_s em k10 + em k10) + nI 1 = nI (zt_s em (k10 + 1)) from nI_add _ _]
      refine lv_istore_n (lv' := [(3, .int (nI (zt_s em (k10 + 1)))), (5, .int (nI (zt_s em k10 + em k10))), (4, .int (nI k10)), (2, .int (nI NN)), (0, .ref a), (1, .ref d)]) hx hb dX2_admitAll_35 rfl hl (by decide) rfl (fun ls hl => ?_)
      refine lv_iinc (v := (nI (k10 + 1))) (lv' := [(4, .int (nI (k10 + 1))), (3, .int (nI (zt_s em (k10 + 1)))), (5, .int (nI (zt_s em k10 + em k10))), (2, .int (nI NN)), (0, .ref a), (1, .ref d)]) hx hb dX2_admitAll_36 hl (k := 2) rfl ((nI_1 k10)) (by decide) rfl (fun ls hl => ?_)
      refine lv_goto (tgt := 10) hx hb dX2_admitAll_39 (by decide) ?_
      rw [hq_10] at hW
      exact ih10 () _ _ _ ⟨hW, hS, lv_sub hl [0, 1, 3, 4, 5] rfl, trivial⟩
