/-! CALLS OF HALFTICKETS THAT CHANGE -/
theorem zb_sv {r : Nat → Int32} {i : Nat} (h : xw_ok 13 r) (hi : i < 2) : xw_ok 13 (upd r i (nI 1)) := by
  rcases (show i = 0 ∨ i = 1 by omega) with q | q <;> subst q
  · exact ⟨xb_1, h.2⟩
  · exact ⟨h.1, xb_1⟩
theorem zb_mx {x y : Nat} (h1 : x < 2 ^ 30) (h2 : y < 2 ^ 30) : (if nI 0 < nI x - nI y then nI x - nI y else nI 0) = nI (x - y) := by
  by_cases q : y ≤ x
  · rw [pk_sub q]
    exact zc_mx (by omega)
  · have e : nI x - nI y < nI 0 := by
      rw [nI_0, Int32.lt_iff_toInt_lt, Int32.toInt_sub, nI_toInt (by omega), nI_toInt (by omega)]
      rw [Int.bmod_eq_of_le (by omega) (by omega)]
      show (x : Int) - y < 0
      omega
    rw [if_neg (fun z => absurd (Int32.lt_trans e z) (by rw [Int32.lt_iff_toInt_lt]; omega)), show x - y = 0 by omega]
theorem zN {a n T G B : Nat} {M : xm_T} (h : zi a M n T G B) : ∀ k, k < 24 → M (a + 2 * k + 34) 0 = nI k := h.2.1

set_option maxHeartbeats 4000000 in
set_option maxRecDepth 100000 in
/-- set(s, v) -/
theorem cz_set (l : Launch) {G : va_G} {g : Nat → ClassId} {t0 τ : Nat → Nat} {A : Nat → Prop} (O : xk_O τ A) (M : xm_T) (b : Nat) (hτ : τ b = 16) (hp : zp b M) {sx v : Nat} (hs : sx < 3) (h1 : ¬ nI v < xs_1 sx) (h2 : nI v ≤ xs_2 sx) : Met l yX6_set wsX6_set ({ frames := 5, cells := 0, slots := 0, locals := 160 }) (va_Pc [.ref b, .int (nI sx), .int (nI v)] (xS_t G g t0 τ A M)) (va_Qi (fun r M' => r = M (b + 2) sx ∧ zq b M M' (xu_p M (b + 2) sx (nI v)) ∧ zq_d b M M') (fun M' t => xw_D G g τ M' t.heap) A) 0 0 A := by
  refine Met.ofW (cc := cX6_set) (maxL := 4) (ret := (some .int)) (by decide) rfl ?_
  intro p e s m args below meth c s₁ B hml hv
  obtain ⟨rfl, hW, hK, hst, hnw⟩ := hv
  have hx := B.exec
  have hb := B.bytes
  have hr := B.returns
  have hts := atoms_spec (ws := wsX6_set) B.pre
  have hown : s.vm.findClass RX6 = some m.cls := findClass_of_methodNamed B.named
  have hlocks := B.notSynchronized
  have hS : va_S A s.heap s.heap [] := va_S.rf
  have inX2 : ∀ w ∈ u_ws RX2 TX2 7, w ∈ wsX6_set := by decide +kernel
  have inX6 : ∀ w ∈ u_ws RX6 TX6 6, w ∈ wsX6_set := by decide +kernel
  have hl := lv_entry ([.ref b, .int (nI sx), .int (nI v)]) (n := 4) (Nat.le_of_ble_eq_true rfl)
  rw [lg_entry_eq]
  generalize (lg_sl ([.ref b, .int (nI sx), .int (nI v)]) ++ List.replicate (4 - (lg_sl ([.ref b, .int (nI sx), .int (nI v)])).length) Slot.unset).toArray = ls at hl ⊢
  have hl : lv_has ls 4 [(0, .ref b), (1, .int (nI sx)), (2, .int (nI v))] := hl
  obtain ⟨hpN, ⟨hn, hn6, hnM⟩, LP, hLP, hLM⟩ := id hp
  refine lv_iload_n hx hb dX6_set_0 rfl (lv_at hl 1 rfl) ?_
  refine lv_if_lt (tgt := 12) hx hb dX6_set_1 (by decide) (fun c_1 => ?_) (fun c_1 => ?_)
  · exact absurd c_1 (nI_pos (by omega))
  · refine lv_iload_n hx hb dX6_set_4 rfl (lv_at hl 1 rfl) ?_
    refine va_gets hx hb hst.1.1 hS hown (hts (.fieldLink RX6 41 "HalfTickets" "FIRST_SETTING" "[I") (List.mem_of_getElem? (i := 1) (by decide +kernel))) (fun _ h9 => h9) dX6_set_5 ?_
    refine va_tlen hx hb hst.1.2 hS (v := nI 3) rfl dX6_set_8 ?_
    refine lv_icmp_lt (tgt := 15) hx hb dX6_set_9 (by decide) (fun c_2 => ?_) (fun c_2 => ?_)
    · refine lv_iload_n hx hb dX6_set_15 rfl (lv_at hl 2 rfl) ?_
      refine va_gets hx hb hst.2.1.1 hS hown (hts (.fieldLink RX6 45 "HalfTickets" "LOWEST_SETTING" "[I") (List.mem_of_getElem? (i := 2) (by decide +kernel))) (fun _ h9 => h9) dX6_set_16 ?_
      refine lv_iload_n hx hb dX6_set_19 rfl (lv_at hl 1 rfl) ?_
      refine va_ti hx hb hst.2.1.2 hS (xi_in rfl hs (by decide)) (v := .int (xs_1 sx)) (by rw [xi_cl rfl hs (by decide)]) dX6_set_20 ?_
      refine lv_icmp_lt (tgt := 33) hx hb dX6_set_21 (by decide) (fun c_3 => ?_) (fun c_3 => ?_)
      · exact absurd c_3 h1
      · refine lv_iload_n hx hb dX6_set_24 rfl (lv_at hl 2 rfl) ?_
        refine va_gets hx hb hst.2.2.1.1 hS hown (hts (.fieldLink RX6 48 "HalfTickets" "HIGHEST_SETTING" "[I") (List.mem_of_getElem? (i := 3) (by decide +kernel))) (fun _ h9 => h9) dX6_set_25 ?_
        refine lv_iload_n hx hb dX6_set_28 rfl (lv_at hl 1 rfl) ?_
        refine va_ti hx hb hst.2.2.1.2 hS (xi_in rfl hs (by decide)) (v := .int (xs_2 sx)) (by rw [xi_cl rfl hs (by decide)]) dX6_set_29 ?_
        refine lv_icmp_le (tgt := 36) hx hb dX6_set_30 (by decide) (fun c_4 => ?_) (fun c_4 => ?_)
        · refine lv_aload_n hx hb dX6_set_36 rfl (lv_at hl 0 rfl) ?_
          refine xg_get (κ := 16) (ci := 6) (C := RX6) (T := TX6) (N := 6) hx hb hts inX6 hown hK hW hτ (by decide) rfl rfl 2 (by decide) (hts (.fieldLink RX6 22 "HalfTickets" "history" "LHalfTickets$History;") (List.mem_of_getElem? (i := 4) (by decide +kernel))) (fun _ h9 => h9) rfl dX6_set_37 ?_
          refine lv_aload_n hx hb dX6_set_40 rfl (lv_at hl 0 rfl) ?_
          refine xg_get (κ := 16) (ci := 6) (C := RX6) (T := TX6) (N := 6) hx hb hts inX6 hown hK hW hτ (by decide) rfl rfl 0 (by decide) (hts (.fieldLink RX6 10 "HalfTickets" "now" "LHalfTickets$Ministry;") (List.mem_of_getElem? (i := 5) (by decide +kernel))) (fun _ h9 => h9) rfl dX6_set_41 ?_
          refine xc_v (xr_V (As := [.ref (b + 1)]) (rest := []) (κ := 10) ⟨hx, hb, hml, hown, hts⟩ (c_X0_remember l O M (b + 165) (b + 1) (O.b3 hτ) (O.b1 hτ) (by omega) hn6 hnM (zp_H hpN)) (cwV 1 hts gX6_set_X0_remember rfl rfl rfl (by decide +kernel) ⟨Nat.le_of_ble_eq_true rfl, Nat.le_of_ble_eq_true rfl⟩) hK hst hnw hS hW (O.b3 hτ) (by decide) rfl rfl rfl hl.1 rfl (Nat.le_of_ble_eq_true rfl) dX6_set_44 ⟨Nat.zero_le _, Nat.zero_le _⟩) hS (fun M_5 H locs hq_6 hW hS => ?_)
          have hg := zq_g hq_6
          have ho : ∀ x, x < b + 165 ∨ b + 659 ≤ x → M_5 x = M x := fun x hx => hq_6.2.1 x (by omega)
          refine lv_aload_n hx hb dX6_set_47 rfl (lv_at hl 0 rfl) ?_
          refine xg_get (κ := 16) (ci := 6) (C := RX6) (T := TX6) (N := 6) hx hb hts inX6 hown hK hW hτ (by decide) rfl rfl 0 (by decide) (hts (.fieldLink RX6 10 "HalfTickets" "now" "LHalfTickets$Ministry;") (List.mem_of_getElem? (i := 5) (by decide +kernel))) (fun _ h9 => h9) rfl dX6_set_48 ?_
          refine xg_get (κ := 1) (ci := 2) (C := RX2) (T := TX2) (N := 7) hx hb hts inX2 hown hK hW (O.b1 hτ) (by decide) rfl rfl 0 (by decide) (hts (.fieldLink RX6 55 "HalfTickets$Ministry" "settings" "[I") (List.mem_of_getElem? (i := 6) (by decide +kernel))) (fun _ h9 => h9) rfl dX6_set_51 ?_
          refine lv_iload_n hx hb dX6_set_54 rfl (lv_at hl 1 rfl) ?_
          refine xg_iald (κ := 103) (n := 3) hx hb hK hW (O.m1 (O.b1 hτ)) (by decide) rfl sx rfl hs (by decide) dX6_set_55 ?_
          refine lv_istore_n (lv' := [(3, .int (M_5 (b + 2) sx)), (0, .ref b), (1, .int (nI sx)), (2, .int (nI v))]) hx hb dX6_set_56 rfl hl (by decide) rfl (fun ls hl => ?_)
          refine lv_aload_n hx hb dX6_set_57 rfl (lv_at hl 1 rfl) ?_
          refine xg_get (κ := 16) (ci := 6) (C := RX6) (T := TX6) (N := 6) hx hb hts inX6 hown hK hW hτ (by decide) rfl rfl 0 (by decide) (hts (.fieldLink RX6 10 "HalfTickets" "now" "LHalfTickets$Ministry;") (List.mem_of_getElem? (i := 5) (by decide +kernel))) (fun _ h9 => h9) rfl dX6_set_58 ?_
          refine xg_get (κ := 1) (ci := 2) (C := RX2) (T := TX2) (N := 7) hx hb hts inX2 hown hK hW (O.b1 hτ) (by decide) rfl rfl 0 (by decide) (hts (.fieldLink RX6 55 "HalfTickets$Ministry" "settings" "[I") (List.mem_of_getElem? (i := 6) (by decide +kernel))) (fun _ h9 => h9) rfl dX6_set_61 ?_
          refine lv_iload_n hx hb dX6_set_64 rfl (lv_at hl 2 rfl) ?_
          refine lv_iload_n hx hb dX6_set_65 rfl (lv_at hl 3 rfl) ?_
          refine xg_iast (κ := 103) (n := 3) hx hb hK O hW hS (O.m1 (O.b1 hτ)) (by decide) (fun _ => rfl) (fun _ => trivial) sx rfl hs (by decide) dX6_set_66 (fun H locs hW hS => ?_)
          obtain ⟨M_8, eM_8⟩ : ∃ M9, M9 = xu_p M_5 (b + 2) sx (nI v) := ⟨_, rfl⟩
          rw [← eM_8] at hW
          refine lv_iload_n hx hb dX6_set_67 rfl (lv_at hl 0 rfl) ?_
          exact W.iret (v := (M_5 (b + 2) sx)) hx hb hr (fun t ht hWm => ⟨⟨(M_5 (b + 2) sx), M_8, rfl, ⟨(by rw [ho _ (by omega)]), (by rw [eM_8]; exact zq_mk hp hq_6 ((zZ_rf hg).up 1 (by omega) (by omega) (by omega) sx rfl) (fun k hk => by rw [xu_n _ (Or.inl (by omega))]; exact (hpN k hk).1))⟩, xw_end ht hW⟩, hS.F ht⟩) hS.2.2 dX6_set_68
        · exact absurd h2 c_4
    · exact absurd (nI_lt hs (by omega)) c_2

set_option maxHeartbeats 4000000 in
set_option maxRecDepth 100000 in
/-- window(w, v) -/
theorem cz_window (l : Launch) {G : va_G} {g : Nat → ClassId} {t0 τ : Nat → Nat} {A : Nat → Prop} (O : xk_O τ A) (M : xm_T) (b : Nat) (hτ : τ b = 16) (hp : zp b M) {w : Nat} {v : Int32} (hw : w < 6) (hv : xb_01 v) : Met l yX6_window wsX6_window ({ frames := 5, cells := 0, slots := 0, locals := 160 }) (va_Pc [.ref b, .int (nI w), .int v] (xS_t G g t0 τ A M)) (va_Qi (fun r M' => (M (b + 1 + 5 * w + 4) 0 = v ∧ r = -5 ∧ M' = M) ∨ (¬ M (b + 1 + 5 * w + 4) 0 = v ∧ r = zc_ow (b + 1) M' ∧ zq b M M' (xu_p M (b + 1 + 5 * w + 4) 0 v) ∧ zq_d b M M')) (fun M' t => xw_D G g τ M' t.heap) A) 0 0 A := by
  refine Met.ofW (cc := cX6_window) (maxL := 4) (ret := (some .int)) (by decide) rfl ?_
  intro p e s m args below meth c s₁ B hml hv
  obtain ⟨rfl, hW, hK, hst, hnw⟩ := hv
  have hx := B.exec
  have hb := B.bytes
  have hr := B.returns
  have hts := atoms_spec (ws := wsX6_window) B.pre
  have hown : s.vm.findClass RX6 = some m.cls := findClass_of_methodNamed B.named
  have hlocks := B.notSynchronized
  have hS : va_S A s.heap s.heap [] := va_S.rf
  have inX5 : ∀ w ∈ u_ws RX5 TX5 7, w ∈ wsX6_window := by decide +kernel
  have inX6 : ∀ w ∈ u_ws RX6 TX6 6, w ∈ wsX6_window := by decide +kernel
  have hl := lv_entry ([.ref b, .int (nI w), .int v]) (n := 4) (Nat.le_of_ble_eq_true rfl)
  rw [lg_entry_eq]
  generalize (lg_sl ([.ref b, .int (nI w), .int v]) ++ List.replicate (4 - (lg_sl ([.ref b, .int (nI w), .int v])).length) Slot.unset).toArray = ls at hl ⊢
  have hl : lv_has ls 4 [(0, .ref b), (1, .int (nI w)), (2, .int v)] := hl
  obtain ⟨hpN, ⟨hn, hn6, hnM⟩, LP, hLP, hLM⟩ := id hp
  refine lv_aload_n hx hb dX6_window_0 rfl (lv_at hl 0 rfl) ?_
  refine xg_get (κ := 16) (ci := 6) (C := RX6) (T := TX6) (N := 6) hx hb hts inX6 hown hK hW hτ (by decide) rfl rfl 0 (by decide) (hts (.fieldLink RX6 10 "HalfTickets" "now" "LHalfTickets$Ministry;") (List.mem_of_getElem? (i := 1) (by decide +kernel))) (fun _ h9 => h9) rfl dX6_window_1 ?_
  refine lv_iload_n hx hb dX6_window_4 rfl (lv_at hl 1 rfl) ?_
  refine xc_q (xr_V (As := [.int (nI w)]) (rest := []) (κ := 1) ⟨hx, hb, hml, hown, hts⟩ (c_X2_windowAt l O M (b + 1) (O.b1 hτ) (nI w)) (cwV 1 hts gX6_window_X2_windowAt rfl rfl rfl (by decide +kernel) ⟨Nat.le_of_ble_eq_true rfl, Nat.le_of_ble_eq_true rfl⟩) hK hst hnw hS hW (O.b1 hτ) (by decide) rfl rfl rfl hl.1 rfl (Nat.le_of_ble_eq_true rfl) dX6_window_5 ⟨Nat.zero_le _, Nat.zero_le _⟩) hS (fun r_3 M_1 H locs hq_2 hW hS => ?_)
  obtain ⟨hq_2a, hq_2b⟩ := hq_2
  rw [hq_2b] at hW
  rw [hq_2a]
  rw [xf_win_s (b + 1) hw]
  refine W.eq (g2 := F0 m 8 ls [.ref (b + 1 + 5 * w + 4)]) rfl ?_
  refine lv_astore_n (lv' := [(3, .ref (b + 1 + 5 * w + 4)), (0, .ref b), (1, .int (nI w)), (2, .int v)]) hx hb dX6_window_8 rfl hl (by decide) rfl (fun ls hl => ?_)
  refine lv_aload_n hx hb dX6_window_9 rfl (lv_at hl 0 rfl) ?_
  refine lv_ifnonnull (tgt := 15) hx hb dX6_window_10 (by decide) ?_
  refine lv_aload_n hx hb dX6_window_15 rfl (lv_at hl 0 rfl) ?_
  refine xg_get (κ := 5) (ci := 5) (C := RX5) (T := TX5) (N := 7) hx hb hts inX5 hown hK hW (O.w (O.b1 hτ) hw) (by decide) rfl rfl 0 (by decide) (hts (.fieldLink RX6 62 "HalfTickets$Window" "isOpen" "Z") (List.mem_of_getElem? (i := 2) (by decide +kernel))) (fun _ h9 => h9) rfl dX6_window_16 ?_
  refine lv_iload_n hx hb dX6_window_19 rfl (lv_at hl 3 rfl) ?_
  refine lv_icmp_ne (tgt := 26) hx hb dX6_window_20 (by decide) (fun c_4 => ?_) (fun c_4 => ?_)
  · refine lv_aload_n hx hb dX6_window_26 rfl (lv_at hl 1 rfl) ?_
    refine xg_get (κ := 16) (ci := 6) (C := RX6) (T := TX6) (N := 6) hx hb hts inX6 hown hK hW hτ (by decide) rfl rfl 2 (by decide) (hts (.fieldLink RX6 22 "HalfTickets" "history" "LHalfTickets$History;") (List.mem_of_getElem? (i := 3) (by decide +kernel))) (fun _ h9 => h9) rfl dX6_window_27 ?_
    refine lv_aload_n hx hb dX6_window_30 rfl (lv_at hl 1 rfl) ?_
    refine xg_get (κ := 16) (ci := 6) (C := RX6) (T := TX6) (N := 6) hx hb hts inX6 hown hK hW hτ (by decide) rfl rfl 0 (by decide) (hts (.fieldLink RX6 10 "HalfTickets" "now" "LHalfTickets$Ministry;") (List.mem_of_getElem? (i := 1) (by decide +kernel))) (fun _ h9 => h9) rfl dX6_window_31 ?_
    refine xc_v (xr_V (As := [.ref (b + 1)]) (rest := []) (κ := 10) ⟨hx, hb, hml, hown, hts⟩ (c_X0_remember l O M (b + 165) (b + 1) (O.b3 hτ) (O.b1 hτ) (by omega) hn6 hnM (zp_H hpN)) (cwV 1 hts gX6_window_X0_remember rfl rfl rfl (by decide +kernel) ⟨Nat.le_of_ble_eq_true rfl, Nat.le_of_ble_eq_true rfl⟩) hK hst hnw hS hW (O.b3 hτ) (by decide) rfl rfl rfl hl.1 rfl (Nat.le_of_ble_eq_true rfl) dX6_window_34 ⟨Nat.zero_le _, Nat.zero_le _⟩) hS (fun M_5 H locs hq_6 hW hS => ?_)
    have hg := zq_g hq_6
    have ho : ∀ x, x < b + 165 ∨ b + 659 ≤ x → M_5 x = M x := fun x hx => hq_6.2.1 x (by omega)
    refine lv_aload_n hx hb dX6_window_37 rfl (lv_at hl 0 rfl) ?_
    refine lv_iload_n hx hb dX6_window_38 rfl (lv_at hl 3 rfl) ?_
    refine xg_put (κ := 5) (ci := 5) (C := RX5) (T := TX5) (N := 7) hx hb hts inX5 tyX5 tyX5_ok nmX5 hown hK O hW hS (O.w (O.b1 hτ) hw) (by decide) rfl rfl 0 (by decide) (v := v) rfl hv (hts (.fieldLink RX6 62 "HalfTickets$Window" "isOpen" "Z") (List.mem_of_getElem? (i := 2) (by decide +kernel))) (fun _ h9 => h9) rfl (ty := .boolean) (by decide +kernel) (xb_nar hv) (xb_fit hv) (Nat.le_of_ble_eq_true rfl) dX6_window_39 (fun H locs hW hS => ?_)
    obtain ⟨M_8, eM_8⟩ : ∃ M9, M9 = xu_p M_5 (b + 1 + 5 * w + 4) 0 v := ⟨_, rfl⟩
    rw [← eM_8] at hW
    refine lv_aload_n hx hb dX6_window_42 rfl (lv_at hl 1 rfl) ?_
    refine xg_get (κ := 16) (ci := 6) (C := RX6) (T := TX6) (N := 6) hx hb hts inX6 hown hK hW hτ (by decide) rfl rfl 0 (by decide) (hts (.fieldLink RX6 10 "HalfTickets" "now" "LHalfTickets$Ministry;") (List.mem_of_getElem? (i := 1) (by decide +kernel))) (fun _ h9 => h9) rfl dX6_window_43 ?_
    refine xc_i (xr_V (As := []) (rest := []) (κ := 1) ⟨hx, hb, hml, hown, hts⟩ (c_X2_openWindows l O M_8 (b + 1) (O.b1 hτ)) (cwV 0 hts gX6_window_X2_openWindows rfl rfl rfl (by decide +kernel) ⟨Nat.le_of_ble_eq_true rfl, Nat.le_of_ble_eq_true rfl⟩) hK hst hnw hS hW (O.b1 hτ) (by decide) rfl rfl rfl hl.1 rfl (Nat.le_of_ble_eq_true rfl) dX6_window_46 ⟨Nat.zero_le _, Nat.zero_le _⟩) hS (fun r_11 M_9 H locs hq_10 hW hS => ?_)
    obtain ⟨hq_10a, hq_10b⟩ := hq_10
    rw [hq_10b] at hW
    rw [hq_10a]
    exact W.iret (v := (zc_ow (b + 1) M_8)) hx hb hr (fun t ht hWm => ⟨⟨(zc_ow (b + 1) M_8), M_8, rfl, (Or.inr ⟨c_4, rfl, (by rw [eM_8]; exact zq_mk hp hq_6 ((zZ_rf hg).up (5 * w + 4) (by omega) (by omega) (by omega) 0 rfl) (fun k hk => by rw [xu_n _ (Or.inl (by omega))]; exact (hpN k hk).1))⟩), xw_end ht hW⟩, hS.F ht⟩) hS.2.2 dX6_window_49
  · refine lv_bipush (v := (-5)) hx hb dX6_window_23 (by decide) ?_
    exact W.iret (v := (-5)) hx hb hr (fun t ht hWm => ⟨⟨(-5), M, rfl, (Or.inl ⟨c_4, rfl, rfl⟩), xw_end ht hW⟩, hS.F ht⟩) hS.2.2 dX6_window_25

set_option maxHeartbeats 4000000 in
set_option maxRecDepth 100000 in
/-- clerks(w, c) -/
theorem cz_clerks (l : Launch) {G : va_G} {g : Nat → ClassId} {t0 τ : Nat → Nat} {A : Nat → Prop} (O : xk_O τ A) (M : xm_T) (b : Nat) (hτ : τ b = 16) (hp : zp b M) {w cc : Nat} (hw : w < 6) (hc : cc ≤ 3) : Met l yX6_clerks wsX6_clerks ({ frames := 5, cells := 0, slots := 0, locals := 160 }) (va_Pc [.ref b, .int (nI w), .int (nI cc)] (xS_t G g t0 τ A M)) (va_Qi (fun r M' => r = M (b + 1 + 5 * w + 4) 1 ∧ zq b M M' (xu_p M (b + 1 + 5 * w + 4) 1 (nI cc)) ∧ zq_d b M M') (fun M' t => xw_D G g τ M' t.heap) A) 0 0 A := by
  refine Met.ofW (cc := cX6_clerks) (maxL := 5) (ret := (some .int)) (by decide) rfl ?_
  intro p e s m args below meth c s₁ B hml hv
  obtain ⟨rfl, hW, hK, hst, hnw⟩ := hv
  have hx := B.exec
  have hb := B.bytes
  have hr := B.returns
  have hts := atoms_spec (ws := wsX6_clerks) B.pre
  have hown : s.vm.findClass RX6 = some m.cls := findClass_of_methodNamed B.named
  have hlocks := B.notSynchronized
  have hS : va_S A s.heap s.heap [] := va_S.rf
  have inX5 : ∀ w ∈ u_ws RX5 TX5 7, w ∈ wsX6_clerks := by decide +kernel
  have inX6 : ∀ w ∈ u_ws RX6 TX6 6, w ∈ wsX6_clerks := by decide +kernel
  have hl := lv_entry ([.ref b, .int (nI w), .int (nI cc)]) (n := 5) (Nat.le_of_ble_eq_true rfl)
  rw [lg_entry_eq]
  generalize (lg_sl ([.ref b, .int (nI w), .int (nI cc)]) ++ List.replicate (5 - (lg_sl ([.ref b, .int (nI w), .int (nI cc)])).length) Slot.unset).toArray = ls at hl ⊢
  have hl : lv_has ls 5 [(0, .ref b), (1, .int (nI w)), (2, .int (nI cc))] := hl
  obtain ⟨hpN, ⟨hn, hn6, hnM⟩, LP, hLP, hLM⟩ := id hp
  refine lv_aload_n hx hb dX6_clerks_0 rfl (lv_at hl 0 rfl) ?_
  refine xg_get (κ := 16) (ci := 6) (C := RX6) (T := TX6) (N := 6) hx hb hts inX6 hown hK hW hτ (by decide) rfl rfl 0 (by decide) (hts (.fieldLink RX6 10 "HalfTickets" "now" "LHalfTickets$Ministry;") (List.mem_of_getElem? (i := 1) (by decide +kernel))) (fun _ h9 => h9) rfl dX6_clerks_1 ?_
  refine lv_iload_n hx hb dX6_clerks_4 rfl (lv_at hl 1 rfl) ?_
  refine xc_q (xr_V (As := [.int (nI w)]) (rest := []) (κ := 1) ⟨hx, hb, hml, hown, hts⟩ (c_X2_windowAt l O M (b + 1) (O.b1 hτ) (nI w)) (cwV 1 hts gX6_clerks_X2_windowAt rfl rfl rfl (by decide +kernel) ⟨Nat.le_of_ble_eq_true rfl, Nat.le_of_ble_eq_true rfl⟩) hK hst hnw hS hW (O.b1 hτ) (by decide) rfl rfl rfl hl.1 rfl (Nat.le_of_ble_eq_true rfl) dX6_clerks_5 ⟨Nat.zero_le _, Nat.zero_le _⟩) hS (fun r_3 M_1 H locs hq_2 hW hS => ?_)
  obtain ⟨hq_2a, hq_2b⟩ := hq_2
  rw [hq_2b] at hW
  rw [hq_2a]
  rw [xf_win_s (b + 1) hw]
  refine W.eq (g2 := F0 m 8 ls [.ref (b + 1 + 5 * w + 4)]) rfl ?_
  refine lv_astore_n (lv' := [(3, .ref (b + 1 + 5 * w + 4)), (0, .ref b), (1, .int (nI w)), (2, .int (nI cc))]) hx hb dX6_clerks_8 rfl hl (by decide) rfl (fun ls hl => ?_)
  refine lv_aload_n hx hb dX6_clerks_9 rfl (lv_at hl 0 rfl) ?_
  refine lv_ifnonnull (tgt := 15) hx hb dX6_clerks_10 (by decide) ?_
  refine lv_iload_n hx hb dX6_clerks_15 rfl (lv_at hl 3 rfl) ?_
  refine lv_if_lt (tgt := 24) hx hb dX6_clerks_16 (by decide) (fun c_4 => ?_) (fun c_4 => ?_)
  · exact absurd c_4 (nI_pos (by omega))
  · refine lv_iload_n hx hb dX6_clerks_19 rfl (lv_at hl 3 rfl) ?_
    refine lv_iconst (v := (nI 3)) hx hb dX6_clerks_20 (by decide) ?_
    refine lv_icmp_le (tgt := 27) hx hb dX6_clerks_21 (by decide) (fun c_5 => ?_) (fun c_5 => ?_)
    · refine lv_aload_n hx hb dX6_clerks_27 rfl (lv_at hl 1 rfl) ?_
      refine xg_get (κ := 16) (ci := 6) (C := RX6) (T := TX6) (N := 6) hx hb hts inX6 hown hK hW hτ (by decide) rfl rfl 2 (by decide) (hts (.fieldLink RX6 22 "HalfTickets" "history" "LHalfTickets$History;") (List.mem_of_getElem? (i := 2) (by decide +kernel))) (fun _ h9 => h9) rfl dX6_clerks_28 ?_
      refine lv_aload_n hx hb dX6_clerks_31 rfl (lv_at hl 1 rfl) ?_
      refine xg_get (κ := 16) (ci := 6) (C := RX6) (T := TX6) (N := 6) hx hb hts inX6 hown hK hW hτ (by decide) rfl rfl 0 (by decide) (hts (.fieldLink RX6 10 "HalfTickets" "now" "LHalfTickets$Ministry;") (List.mem_of_getElem? (i := 1) (by decide +kernel))) (fun _ h9 => h9) rfl dX6_clerks_32 ?_
      refine xc_v (xr_V (As := [.ref (b + 1)]) (rest := []) (κ := 10) ⟨hx, hb, hml, hown, hts⟩ (c_X0_remember l O M (b + 165) (b + 1) (O.b3 hτ) (O.b1 hτ) (by omega) hn6 hnM (zp_H hpN)) (cwV 1 hts gX6_clerks_X0_remember rfl rfl rfl (by decide +kernel) ⟨Nat.le_of_ble_eq_true rfl, Nat.le_of_ble_eq_true rfl⟩) hK hst hnw hS hW (O.b3 hτ) (by decide) rfl rfl rfl hl.1 rfl (Nat.le_of_ble_eq_true rfl) dX6_clerks_35 ⟨Nat.zero_le _, Nat.zero_le _⟩) hS (fun M_6 H locs hq_7 hW hS => ?_)
      have hg := zq_g hq_7
      have ho : ∀ x, x < b + 165 ∨ b + 659 ≤ x → M_6 x = M x := fun x hx => hq_7.2.1 x (by omega)
      refine lv_aload_n hx hb dX6_clerks_38 rfl (lv_at hl 0 rfl) ?_
      refine xg_get (κ := 5) (ci := 5) (C := RX5) (T := TX5) (N := 7) hx hb hts inX5 hown hK hW (O.w (O.b1 hτ) hw) (by decide) rfl rfl 1 (by decide) (hts (.fieldLink RX6 72 "HalfTickets$Window" "clerks" "I") (List.mem_of_getElem? (i := 3) (by decide +kernel))) (fun _ h9 => h9) rfl dX6_clerks_39 ?_
      refine lv_istore (lv' := [(4, .int (M_6 (b + 1 + 5 * w + 4) 1)), (3, .ref (b + 1 + 5 * w + 4)), (0, .ref b), (1, .int (nI w)), (2, .int (nI cc))]) hx hb dX6_clerks_42 hl (by decide) rfl (fun ls hl => ?_)
      refine lv_aload_n hx hb dX6_clerks_44 rfl (lv_at hl 1 rfl) ?_
      refine lv_iload_n hx hb dX6_clerks_45 rfl (lv_at hl 4 rfl) ?_
      refine xg_put (κ := 5) (ci := 5) (C := RX5) (T := TX5) (N := 7) hx hb hts inX5 tyX5 tyX5_ok nmX5 hown hK O hW hS (O.w (O.b1 hτ) hw) (by decide) rfl rfl 1 (by decide) (v := (nI cc)) rfl (xw_okp hW (O.w (O.b1 hτ) hw) (by decide)) (hts (.fieldLink RX6 72 "HalfTickets$Window" "clerks" "I") (List.mem_of_getElem? (i := 3) (by decide +kernel))) (fun _ h9 => h9) rfl (ty := .int) (by decide +kernel) rfl rfl (Nat.le_of_ble_eq_true rfl) dX6_clerks_46 (fun H locs hW hS => ?_)
      obtain ⟨M_9, eM_9⟩ : ∃ M9, M9 = xu_p M_6 (b + 1 + 5 * w + 4) 1 (nI cc) := ⟨_, rfl⟩
      rw [← eM_9] at hW
      refine lv_iload hx hb dX6_clerks_49 (lv_at hl 0 rfl) ?_
      exact W.iret (v := (M_6 (b + 1 + 5 * w + 4) 1)) hx hb hr (fun t ht hWm => ⟨⟨(M_6 (b + 1 + 5 * w + 4) 1), M_9, rfl, ⟨(by rw [ho _ (by omega)]), (by rw [eM_9]; exact zq_mk hp hq_7 ((zZ_rf hg).up (5 * w + 4) (by omega) (by omega) (by omega) 1 rfl) (fun k hk => by rw [xu_n _ (Or.inl (by omega))]; exact (hpN k hk).1))⟩, xw_end ht hW⟩, hS.F ht⟩) hS.2.2 dX6_clerks_51
    · exact absurd (nI_le hc (by omega)) c_5

set_option maxHeartbeats 4000000 in
set_option maxRecDepth 100000 in
/-- bring(w) -/
theorem cz_bring (l : Launch) {G : va_G} {g : Nat → ClassId} {t0 τ : Nat → Nat} {A : Nat → Prop} (O : xk_O τ A) (M : xm_T) (b : Nat) (hτ : τ b = 16) (hp : zp b M) {nn TT GG BB : Nat} (hz : zi (b + 1) M nn TT GG BB) (hB : BB < 2 ^ 30) {w : Nat} (hw : w < 6) : Met l yX6_bring wsX6_bring ({ frames := 5, cells := 0, slots := 0, locals := 160 }) (va_Pc [.ref b, .int (nI w)] (xS_t G g t0 τ A M)) (va_Qi (fun r M' => ∃ x y : Nat, x ≤ 20 ∧ y ≤ BB ∧ M (b + 2) 1 = nI x ∧ M (b + 1 + 5 * w + 4) 2 = nI y ∧ r = nI (x - y) ∧ zq b M M' (xu_p (xu_p M (b + 1 + 5 * w + 4) 2 (M (b + 1 + 5 * w + 4) 2 + nI (x - y))) (b + 1) 6 (M (b + 1) 6 + nI (x - y))) ∧ zq_d b M M') (fun M' t => xw_D G g τ M' t.heap) A) 0 0 A := by
  refine Met.ofW (cc := cX6_bring) (maxL := 4) (ret := (some .int)) (by decide) rfl ?_
  intro p e s m args below meth c s₁ B hml hv
  obtain ⟨rfl, hW, hK, hst, hnw⟩ := hv
  have hx := B.exec
  have hb := B.bytes
  have hr := B.returns
  have hts := atoms_spec (ws := wsX6_bring) B.pre
  have hown : s.vm.findClass RX6 = some m.cls := findClass_of_methodNamed B.named
  have hlocks := B.notSynchronized
  have hS : va_S A s.heap s.heap [] := va_S.rf
  have inX2 : ∀ w ∈ u_ws RX2 TX2 7, w ∈ wsX6_bring := by decide +kernel
  have inX5 : ∀ w ∈ u_ws RX5 TX5 7, w ∈ wsX6_bring := by decide +kernel
  have inX6 : ∀ w ∈ u_ws RX6 TX6 6, w ∈ wsX6_bring := by decide +kernel
  have hl := lv_entry ([.ref b, .int (nI w)]) (n := 4) (Nat.le_of_ble_eq_true rfl)
  rw [lg_entry_eq]
  generalize (lg_sl ([.ref b, .int (nI w)]) ++ List.replicate (4 - (lg_sl ([.ref b, .int (nI w)])).length) Slot.unset).toArray = ls at hl ⊢
  have hl : lv_has ls 4 [(0, .ref b), (1, .int (nI w))] := hl
  obtain ⟨hpN, ⟨hn, hn6, hnM⟩, LP, hLP, hLM⟩ := id hp
  obtain ⟨x, hx20, hxM⟩ := hz.1.2.2.2.2
  obtain ⟨y, sv, bv, hyB, w2, w3, hyM, w5, w6⟩ := hz.2.2.2.2.1 w hw
  refine lv_aload_n hx hb dX6_bring_0 rfl (lv_at hl 0 rfl) ?_
  refine xg_get (κ := 16) (ci := 6) (C := RX6) (T := TX6) (N := 6) hx hb hts inX6 hown hK hW hτ (by decide) rfl rfl 0 (by decide) (hts (.fieldLink RX6 10 "HalfTickets" "now" "LHalfTickets$Ministry;") (List.mem_of_getElem? (i := 1) (by decide +kernel))) (fun _ h9 => h9) rfl dX6_bring_1 ?_
  refine lv_iload_n hx hb dX6_bring_4 rfl (lv_at hl 1 rfl) ?_
  refine xc_q (xr_V (As := [.int (nI w)]) (rest := []) (κ := 1) ⟨hx, hb, hml, hown, hts⟩ (c_X2_windowAt l O M (b + 1) (O.b1 hτ) (nI w)) (cwV 1 hts gX6_bring_X2_windowAt rfl rfl rfl (by decide +kernel) ⟨Nat.le_of_ble_eq_true rfl, Nat.le_of_ble_eq_true rfl⟩) hK hst hnw hS hW (O.b1 hτ) (by decide) rfl rfl rfl hl.1 rfl (Nat.le_of_ble_eq_true rfl) dX6_bring_5 ⟨Nat.zero_le _, Nat.zero_le _⟩) hS (fun r_3 M_1 H locs hq_2 hW hS => ?_)
  obtain ⟨hq_2a, hq_2b⟩ := hq_2
  rw [hq_2b] at hW
  rw [hq_2a]
  rw [xf_win_s (b + 1) hw]
  refine W.eq (g2 := F0 m 8 ls [.ref (b + 1 + 5 * w + 4)]) rfl ?_
  refine lv_astore_n (lv' := [(2, .ref (b + 1 + 5 * w + 4)), (0, .ref b), (1, .int (nI w))]) hx hb dX6_bring_8 rfl hl (by decide) rfl (fun ls hl => ?_)
  refine lv_aload_n hx hb dX6_bring_9 rfl (lv_at hl 0 rfl) ?_
  refine lv_ifnonnull (tgt := 15) hx hb dX6_bring_10 (by decide) ?_
  refine lv_aload_n hx hb dX6_bring_15 rfl (lv_at hl 1 rfl) ?_
  refine xg_get (κ := 16) (ci := 6) (C := RX6) (T := TX6) (N := 6) hx hb hts inX6 hown hK hW hτ (by decide) rfl rfl 2 (by decide) (hts (.fieldLink RX6 22 "HalfTickets" "history" "LHalfTickets$History;") (List.mem_of_getElem? (i := 2) (by decide +kernel))) (fun _ h9 => h9) rfl dX6_bring_16 ?_
  refine lv_aload_n hx hb dX6_bring_19 rfl (lv_at hl 1 rfl) ?_
  refine xg_get (κ := 16) (ci := 6) (C := RX6) (T := TX6) (N := 6) hx hb hts inX6 hown hK hW hτ (by decide) rfl rfl 0 (by decide) (hts (.fieldLink RX6 10 "HalfTickets" "now" "LHalfTickets$Ministry;") (List.mem_of_getElem? (i := 1) (by decide +kernel))) (fun _ h9 => h9) rfl dX6_bring_20 ?_
  refine xc_v (xr_V (As := [.ref (b + 1)]) (rest := []) (κ := 10) ⟨hx, hb, hml, hown, hts⟩ (c_X0_remember l O M (b + 165) (b + 1) (O.b3 hτ) (O.b1 hτ) (by omega) hn6 hnM (zp_H hpN)) (cwV 1 hts gX6_bring_X0_remember rfl rfl rfl (by decide +kernel) ⟨Nat.le_of_ble_eq_true rfl, Nat.le_of_ble_eq_true rfl⟩) hK hst hnw hS hW (O.b3 hτ) (by decide) rfl rfl rfl hl.1 rfl (Nat.le_of_ble_eq_true rfl) dX6_bring_23 ⟨Nat.zero_le _, Nat.zero_le _⟩) hS (fun M_4 H locs hq_5 hW hS => ?_)
  have hg := zq_g hq_5
  have ho : ∀ x, x < b + 165 ∨ b + 659 ≤ x → M_4 x = M x := fun x hx => hq_5.2.1 x (by omega)
  refine lv_iconst (v := (nI 0)) hx hb dX6_bring_26 (by decide) ?_
  refine lv_aload_n hx hb dX6_bring_27 rfl (lv_at hl 1 rfl) ?_
  refine xg_get (κ := 16) (ci := 6) (C := RX6) (T := TX6) (N := 6) hx hb hts inX6 hown hK hW hτ (by decide) rfl rfl 0 (by decide) (hts (.fieldLink RX6 10 "HalfTickets" "now" "LHalfTickets$Ministry;") (List.mem_of_getElem? (i := 1) (by decide +kernel))) (fun _ h9 => h9) rfl dX6_bring_28 ?_
  refine xg_get (κ := 1) (ci := 2) (C := RX2) (T := TX2) (N := 7) hx hb hts inX2 hown hK hW (O.b1 hτ) (by decide) rfl rfl 0 (by decide) (hts (.fieldLink RX6 55 "HalfTickets$Ministry" "settings" "[I") (List.mem_of_getElem? (i := 3) (by decide +kernel))) (fun _ h9 => h9) rfl dX6_bring_31 ?_
  refine lv_iconst (v := (nI 1)) hx hb dX6_bring_34 (by decide) ?_
  refine xg_iald (κ := 103) (n := 3) hx hb hK hW (O.m1 (O.b1 hτ)) (by decide) rfl 1 rfl (by decide) (by decide) dX6_bring_35 ?_
  refine lv_aload_n hx hb dX6_bring_36 rfl (lv_at hl 0 rfl) ?_
  refine xg_get (κ := 5) (ci := 5) (C := RX5) (T := TX5) (N := 7) hx hb hts inX5 hown hK hW (O.w (O.b1 hτ) hw) (by decide) rfl rfl 2 (by decide) (hts (.fieldLink RX6 76 "HalfTickets$Window" "halves" "I") (List.mem_of_getElem? (i := 4) (by decide +kernel))) (fun _ h9 => h9) rfl dX6_bring_37 ?_
  refine lv_isub hx hb dX6_bring_40 ?_
  refine va_mmax hx hb (by rw [hml]; exact hl.1.symm) hown (hts (.methodLink RX6 79 Lib.Math.max.name) (List.mem_of_getElem? (i := 5) (by decide +kernel))) (hts (.static Lib.Math.max.name) (List.mem_of_getElem? (i := 6) (by decide +kernel))) (hts (.initialized "java/lang/Math") (List.mem_of_getElem? (i := 7) (by decide +kernel))) (hts (.code Lib.Math.max.name Lib.Math.max.code 2 (some .int)) (List.mem_of_getElem? (i := 8) (by decide +kernel))) (Nat.le_of_ble_eq_true rfl) (Nat.le_of_ble_eq_true rfl) (Nat.zero_le _) (Nat.zero_le _) dX6_bring_41 ?_
  rw [show M_4 (b + 2) 1 = nI x by rw [ho _ (by omega)]; exact hxM, show M_4 (b + 1 + 5 * w + 4) 2 = nI y by rw [ho _ (by omega)]; exact hyM, zb_mx (by omega) (by omega)]
  refine lv_istore_n (lv' := [(3, .int (nI (x - y))), (2, .ref (b + 1 + 5 * w + 4)), (0, .ref b), (1, .int (nI w))]) hx hb dX6_bring_44 rfl hl (by decide) rfl (fun ls hl => ?_)
  refine lv_aload_n hx hb dX6_bring_45 rfl (lv_at hl 1 rfl) ?_
  refine lv_dup hx hb dX6_bring_46 rfl ?_
  refine xg_get (κ := 5) (ci := 5) (C := RX5) (T := TX5) (N := 7) hx hb hts inX5 hown hK hW (O.w (O.b1 hτ) hw) (by decide) rfl rfl 2 (by decide) (hts (.fieldLink RX6 76 "HalfTickets$Window" "halves" "I") (List.mem_of_getElem? (i := 4) (by decide +kernel))) (fun _ h9 => h9) rfl dX6_bring_47 ?_
  refine lv_iload_n hx hb dX6_bring_50 rfl (lv_at hl 0 rfl) ?_
  refine lv_iadd hx hb dX6_bring_51 ?_
  refine xg_put (κ := 5) (ci := 5) (C := RX5) (T := TX5) (N := 7) hx hb hts inX5 tyX5 tyX5_ok nmX5 hown hK O hW hS (O.w (O.b1 hτ) hw) (by decide) rfl rfl 2 (by decide) (v := ((M_4 (b + 1 + 5 * w + 4) 2) + (nI (x - y)))) rfl (xw_okp hW (O.w (O.b1 hτ) hw) (by decide)) (hts (.fieldLink RX6 76 "HalfTickets$Window" "halves" "I") (List.mem_of_getElem? (i := 4) (by decide +kernel))) (fun _ h9 => h9) rfl (ty := .int) (by decide +kernel) rfl rfl (Nat.le_of_ble_eq_true rfl) dX6_bring_52 (fun H locs hW hS => ?_)
  obtain ⟨M_7, eM_7⟩ : ∃ M9, M9 = xu_p M_4 (b + 1 + 5 * w + 4) 2 ((M_4 (b + 1 + 5 * w + 4) 2) + (nI (x - y))) := ⟨_, rfl⟩
  rw [← eM_7] at hW
  refine lv_aload_n hx hb dX6_bring_55 rfl (lv_at hl 2 rfl) ?_
  refine xg_get (κ := 16) (ci := 6) (C := RX6) (T := TX6) (N := 6) hx hb hts inX6 hown hK hW hτ (by decide) rfl rfl 0 (by decide) (hts (.fieldLink RX6 10 "HalfTickets" "now" "LHalfTickets$Ministry;") (List.mem_of_getElem? (i := 1) (by decide +kernel))) (fun _ h9 => h9) rfl dX6_bring_56 ?_
  refine lv_dup hx hb dX6_bring_59 rfl ?_
  refine xg_get (κ := 1) (ci := 2) (C := RX2) (T := TX2) (N := 7) hx hb hts inX2 hown hK hW (O.b1 hτ) (by decide) rfl rfl 6 (by decide) (hts (.fieldLink RX6 85 "HalfTickets$Ministry" "brought" "I") (List.mem_of_getElem? (i := 9) (by decide +kernel))) (fun _ h9 => h9) rfl dX6_bring_60 ?_
  refine lv_iload_n hx hb dX6_bring_63 rfl (lv_at hl 0 rfl) ?_
  refine lv_iadd hx hb dX6_bring_64 ?_
  refine xg_put (κ := 1) (ci := 2) (C := RX2) (T := TX2) (N := 7) hx hb hts inX2 tyX2 tyX2_ok nmX2 hown hK O hW hS (O.b1 hτ) (by decide) rfl rfl 6 (by decide) (v := ((M_7 (b + 1) 6) + (nI (x - y)))) rfl trivial (hts (.fieldLink RX6 85 "HalfTickets$Ministry" "brought" "I") (List.mem_of_getElem? (i := 9) (by decide +kernel))) (fun _ h9 => h9) rfl (ty := .int) (by decide +kernel) rfl rfl (Nat.le_of_ble_eq_true rfl) dX6_bring_65 (fun H locs hW hS => ?_)
  obtain ⟨M_8, eM_8⟩ : ∃ M9, M9 = xu_p M_7 (b + 1) 6 ((M_7 (b + 1) 6) + (nI (x - y))) := ⟨_, rfl⟩
  rw [← eM_8] at hW
  refine lv_iload_n hx hb dX6_bring_68 rfl (lv_at hl 0 rfl) ?_
  exact W.iret (v := (nI (x - y))) hx hb hr (fun t ht hWm => ⟨⟨(nI (x - y)), M_8, rfl, ⟨x, y, hx20, hyB, hxM, hyM, rfl, (by rw [eM_8, eM_7, show xu_p M_4 (b + 1 + 5 * w + 4) 2 (M_4 (b + 1 + 5 * w + 4) 2 + nI (x - y)) (b + 1) 6 = M_4 (b + 1) 6 from xu_n _ (Or.inl (by omega))]; exact zq_mk hp hq_5 (((zZ_rf hg).up (5 * w + 4) (by omega) (by omega) (by omega) 2 (by rw [ho _ (by omega)])).up 0 (by omega) (by omega) (by omega) 6 (by rw [ho _ (by omega)])) (fun k hk => by rw [xu_n _ (Or.inl (by omega)), xu_n _ (Or.inl (by omega))]; exact (hpN k hk).1))⟩, xw_end ht hW⟩, hS.F ht⟩) hS.2.2 dX6_bring_69

set_option maxHeartbeats 4000000 in
set_option maxRecDepth 100000 in
/-- leave(k) -/
theorem cz_leave (l : Launch) {G : va_G} {g : Nat → ClassId} {t0 τ : Nat → Nat} {A : Nat → Prop} (O : xk_O τ A) (M : xm_T) (b : Nat) (hτ : τ b = 16) (hp : zp b M) {nn TT GG BB : Nat} (hz : zi (b + 1) M nn TT GG BB) {k : Nat} (hk : k < nn) (hT : TT ≤ GG) : Met l yX6_leave wsX6_leave ({ frames := 5, cells := 0, slots := 0, locals := 160 }) (va_Pc [.ref b, .int (nI k)] (xS_t G g t0 τ A M)) (va_Qi (fun r M' => (¬ M (b + 1 + 2 * k + 34) 3 = nI 0 ∧ r = -5 ∧ M' = M) ∨ (M (b + 1 + 2 * k + 34) 3 = nI 0 ∧ r = M' (b + 1 + 2 * k + 34) 4 ∧ zq b M M' (zm_sa (b + 1) k (nI TT) M) ∧ zq_d b M M')) (fun M' t => xw_D G g τ M' t.heap) A) 0 0 A := by
  refine Met.ofW (cc := cX6_leave) (maxL := 3) (ret := (some .int)) (by decide) rfl ?_
  intro p e s m args below meth c s₁ B hml hv
  obtain ⟨rfl, hW, hK, hst, hnw⟩ := hv
  have hx := B.exec
  have hb := B.bytes
  have hr := B.returns
  have hts := atoms_spec (ws := wsX6_leave) B.pre
  have hown : s.vm.findClass RX6 = some m.cls := findClass_of_methodNamed B.named
  have hlocks := B.notSynchronized
  have hS : va_S A s.heap s.heap [] := va_S.rf
  have inX2 : ∀ w ∈ u_ws RX2 TX2 7, w ∈ wsX6_leave := by decide +kernel
  have inX4 : ∀ w ∈ u_ws RX4 TX4 12, w ∈ wsX6_leave := by decide +kernel
  have inX6 : ∀ w ∈ u_ws RX6 TX6 6, w ∈ wsX6_leave := by decide +kernel
  have hl := lv_entry ([.ref b, .int (nI k)]) (n := 3) (Nat.le_of_ble_eq_true rfl)
  rw [lg_entry_eq]
  generalize (lg_sl ([.ref b, .int (nI k)]) ++ List.replicate (3 - (lg_sl ([.ref b, .int (nI k)])).length) Slot.unset).toArray = ls at hl ⊢
  have hl : lv_has ls 3 [(0, .ref b), (1, .int (nI k))] := hl
  obtain ⟨hpN, ⟨hn, hn6, hnM⟩, LP, hLP, hLM⟩ := id hp
  have hk24 : k < 24 := by have := hz.n; omega
  refine lv_aload_n hx hb dX6_leave_0 rfl (lv_at hl 0 rfl) ?_
  refine xg_get (κ := 16) (ci := 6) (C := RX6) (T := TX6) (N := 6) hx hb hts inX6 hown hK hW hτ (by decide) rfl rfl 0 (by decide) (hts (.fieldLink RX6 10 "HalfTickets" "now" "LHalfTickets$Ministry;") (List.mem_of_getElem? (i := 1) (by decide +kernel))) (fun _ h9 => h9) rfl dX6_leave_1 ?_
  refine lv_iload_n hx hb dX6_leave_4 rfl (lv_at hl 1 rfl) ?_
  refine xc_q (xr_V (As := [.int (nI k)]) (rest := []) (κ := 1) ⟨hx, hb, hml, hown, hts⟩ (c_X2_personAt l O M (b + 1) (O.b1 hτ) (nI k)) (cwV 1 hts gX6_leave_X2_personAt rfl rfl rfl (by decide +kernel) ⟨Nat.le_of_ble_eq_true rfl, Nat.le_of_ble_eq_true rfl⟩) hK hst hnw hS hW (O.b1 hτ) (by decide) rfl rfl rfl hl.1 rfl (Nat.le_of_ble_eq_true rfl) dX6_leave_5 ⟨Nat.zero_le _, Nat.zero_le _⟩) hS (fun r_3 M_1 H locs hq_2 hW hS => ?_)
  obtain ⟨hq_2a, hq_2b⟩ := hq_2
  rw [hq_2b] at hW
  rw [hq_2a]
  rw [xf_per_s hz.1.2.1 hz.n hk]
  refine W.eq (g2 := F0 m 8 ls [.ref (b + 1 + 2 * k + 34)]) rfl ?_
  refine lv_astore_n (lv' := [(2, .ref (b + 1 + 2 * k + 34)), (0, .ref b), (1, .int (nI k))]) hx hb dX6_leave_8 rfl hl (by decide) rfl (fun ls hl => ?_)
  refine lv_aload_n hx hb dX6_leave_9 rfl (lv_at hl 0 rfl) ?_
  refine lv_ifnonnull (tgt := 15) hx hb dX6_leave_10 (by decide) ?_
  refine lv_aload_n hx hb dX6_leave_15 rfl (lv_at hl 0 rfl) ?_
  refine xg_get (κ := 8) (ci := 4) (C := RX4) (T := TX4) (N := 12) hx hb hts inX4 hown hK hW (O.p (O.b1 hτ) hk24) (by decide) rfl rfl 3 (by decide) (hts (.fieldLink RX6 108 "HalfTickets$Person" "where" "I") (List.mem_of_getElem? (i := 2) (by decide +kernel))) (fun _ h9 => h9) rfl dX6_leave_16 ?_
  refine lv_if_eq (tgt := 25) hx hb dX6_leave_19 (by decide) (fun c_4 => ?_) (fun c_4 => ?_)
  · refine lv_aload_n hx hb dX6_leave_25 rfl (lv_at hl 1 rfl) ?_
    refine xg_get (κ := 16) (ci := 6) (C := RX6) (T := TX6) (N := 6) hx hb hts inX6 hown hK hW hτ (by decide) rfl rfl 2 (by decide) (hts (.fieldLink RX6 22 "HalfTickets" "history" "LHalfTickets$History;") (List.mem_of_getElem? (i := 3) (by decide +kernel))) (fun _ h9 => h9) rfl dX6_leave_26 ?_
    refine lv_aload_n hx hb dX6_leave_29 rfl (lv_at hl 1 rfl) ?_
    refine xg_get (κ := 16) (ci := 6) (C := RX6) (T := TX6) (N := 6) hx hb hts inX6 hown hK hW hτ (by decide) rfl rfl 0 (by decide) (hts (.fieldLink RX6 10 "HalfTickets" "now" "LHalfTickets$Ministry;") (List.mem_of_getElem? (i := 1) (by decide +kernel))) (fun _ h9 => h9) rfl dX6_leave_30 ?_
    refine xc_v (xr_V (As := [.ref (b + 1)]) (rest := []) (κ := 10) ⟨hx, hb, hml, hown, hts⟩ (c_X0_remember l O M (b + 165) (b + 1) (O.b3 hτ) (O.b1 hτ) (by omega) hn6 hnM (zp_H hpN)) (cwV 1 hts gX6_leave_X0_remember rfl rfl rfl (by decide +kernel) ⟨Nat.le_of_ble_eq_true rfl, Nat.le_of_ble_eq_true rfl⟩) hK hst hnw hS hW (O.b3 hτ) (by decide) rfl rfl rfl hl.1 rfl (Nat.le_of_ble_eq_true rfl) dX6_leave_33 ⟨Nat.zero_le _, Nat.zero_le _⟩) hS (fun M_5 H locs hq_6 hW hS => ?_)
    have hg := zq_g hq_6
    have ho : ∀ x, x < b + 165 ∨ b + 659 ≤ x → M_5 x = M x := fun x hx => hq_6.2.1 x (by omega)
    refine lv_aload_n hx hb dX6_leave_36 rfl (lv_at hl 1 rfl) ?_
    refine xg_get (κ := 16) (ci := 6) (C := RX6) (T := TX6) (N := 6) hx hb hts inX6 hown hK hW hτ (by decide) rfl rfl 0 (by decide) (hts (.fieldLink RX6 10 "HalfTickets" "now" "LHalfTickets$Ministry;") (List.mem_of_getElem? (i := 1) (by decide +kernel))) (fun _ h9 => h9) rfl dX6_leave_37 ?_
    refine lv_aload_n hx hb dX6_leave_40 rfl (lv_at hl 0 rfl) ?_
    refine lv_aload_n hx hb dX6_leave_41 rfl (lv_at hl 1 rfl) ?_
    refine xg_get (κ := 16) (ci := 6) (C := RX6) (T := TX6) (N := 6) hx hb hts inX6 hown hK hW hτ (by decide) rfl rfl 0 (by decide) (hts (.fieldLink RX6 10 "HalfTickets" "now" "LHalfTickets$Ministry;") (List.mem_of_getElem? (i := 1) (by decide +kernel))) (fun _ h9 => h9) rfl dX6_leave_42 ?_
    refine xg_get (κ := 1) (ci := 2) (C := RX2) (T := TX2) (N := 7) hx hb hts inX2 hown hK hW (O.b1 hτ) (by decide) rfl rfl 4 (by decide) (hts (.fieldLink RX6 113 "HalfTickets$Ministry" "ticks" "I") (List.mem_of_getElem? (i := 4) (by decide +kernel))) (fun _ h9 => h9) rfl dX6_leave_45 ?_
    have hz1 := zi_g hz hg
    have h30 : M_5 (b + 1 + 2 * k + 34) 3 = nI 0 := by rw [ho _ (by omega)]; exact c_4
    obtain ⟨tt, mm, u, L, hat, hL, hQ⟩ := zi_wn hz1 hk h30
    refine xc_v (xr_V (As := [.ref (b + 1 + 2 * k + 34), .int (M_5 (b + 1) 4)]) (rest := []) (κ := 1) ⟨hx, hb, hml, hown, hts⟩ (c_X2_sendAway l O M_5 (b + 1) k (O.b1 hτ) hk24 (M_5 (b + 1) 4) hat h30 hL hQ) (cwV 2 hts gX6_leave_X2_sendAway rfl rfl rfl (by decide +kernel) ⟨Nat.le_of_ble_eq_true rfl, Nat.le_of_ble_eq_true rfl⟩) hK hst hnw hS hW (O.b1 hτ) (by decide) rfl rfl rfl hl.1 rfl (Nat.le_of_ble_eq_true rfl) dX6_leave_48 ⟨Nat.zero_le _, Nat.zero_le _⟩) hS (fun M_8 H locs hq_9 hW hS => ?_)
    refine lv_aload_n hx hb dX6_leave_51 rfl (lv_at hl 0 rfl) ?_
    refine xg_get (κ := 8) (ci := 4) (C := RX4) (T := TX4) (N := 12) hx hb hts inX4 hown hK hW (O.p (O.b1 hτ) hk24) (by decide) rfl rfl 4 (by decide) (hts (.fieldLink RX6 120 "HalfTickets$Person" "through" "I") (List.mem_of_getElem? (i := 5) (by decide +kernel))) (fun _ h9 => h9) rfl dX6_leave_52 ?_
    exact W.iret (v := (M_8 (b + 1 + 2 * k + 34) 4)) hx hb hr (fun t ht hWm => ⟨⟨(M_8 (b + 1 + 2 * k + 34) 4), M_8, rfl, (Or.inr ⟨c_4, rfl, (by rw [hq_9]; exact zq_mk hp hq_6 (zZ_sa (zZ_rf hg) hk24 (by rw [ho _ (by omega)]; exact hz.1.2.2.1.symm)) (zN (zi_sa hz hk c_4 hT)))⟩), xw_end ht hW⟩, hS.F ht⟩) hS.2.2 dX6_leave_55
  · refine lv_bipush (v := (-5)) hx hb dX6_leave_22 (by decide) ?_
    exact W.iret (v := (-5)) hx hb hr (fun t ht hWm => ⟨⟨(-5), M, rfl, (Or.inl ⟨c_4, rfl, rfl⟩), xw_end ht hW⟩, hS.F ht⟩) hS.2.2 dX6_leave_24

set_option maxHeartbeats 4000000 in
set_option maxRecDepth 100000 in
/-- leave(k), nobody -/
theorem cz_leave_n (l : Launch) {G : va_G} {g : Nat → ClassId} {t0 τ : Nat → Nat} {A : Nat → Prop} (O : xk_O τ A) (M : xm_T) (b : Nat) (hτ : τ b = 16) (hp : zp b M) {nn TT GG BB : Nat} (hz : zi (b + 1) M nn TT GG BB) : Met l yX6_leave wsX6_leave ({ frames := 5, cells := 0, slots := 0, locals := 160 }) (va_Pc [.ref b, .int (nI nn)] (xS_t G g t0 τ A M)) (va_Qi (fun r M' => r = -1 ∧ M' = M) (fun M' t => xw_D G g τ M' t.heap) A) 0 0 A := by
  refine Met.ofW (cc := cX6_leave) (maxL := 3) (ret := (some .int)) (by decide) rfl ?_
  intro p e s m args below meth c s₁ B hml hv
  obtain ⟨rfl, hW, hK, hst, hnw⟩ := hv
  have hx := B.exec
  have hb := B.bytes
  have hr := B.returns
  have hts := atoms_spec (ws := wsX6_leave) B.pre
  have hown : s.vm.findClass RX6 = some m.cls := findClass_of_methodNamed B.named
  have hlocks := B.notSynchronized
  have hS : va_S A s.heap s.heap [] := va_S.rf
  have inX2 : ∀ w ∈ u_ws RX2 TX2 7, w ∈ wsX6_leave := by decide +kernel
  have inX4 : ∀ w ∈ u_ws RX4 TX4 12, w ∈ wsX6_leave := by decide +kernel
  have inX6 : ∀ w ∈ u_ws RX6 TX6 6, w ∈ wsX6_leave := by decide +kernel
  have hl := lv_entry ([.ref b, .int (nI nn)]) (n := 3) (Nat.le_of_ble_eq_true rfl)
  rw [lg_entry_eq]
  generalize (lg_sl ([.ref b, .int (nI nn)]) ++ List.replicate (3 - (lg_sl ([.ref b, .int (nI nn)])).length) Slot.unset).toArray = ls at hl ⊢
  have hl : lv_has ls 3 [(0, .ref b), (1, .int (nI nn))] := hl
  obtain ⟨hpN, ⟨hn, hn6, hnM⟩, LP, hLP, hLM⟩ := id hp
  refine lv_aload_n hx hb dX6_leave_0 rfl (lv_at hl 0 rfl) ?_
  refine xg_get (κ := 16) (ci := 6) (C := RX6) (T := TX6) (N := 6) hx hb hts inX6 hown hK hW hτ (by decide) rfl rfl 0 (by decide) (hts (.fieldLink RX6 10 "HalfTickets" "now" "LHalfTickets$Ministry;") (List.mem_of_getElem? (i := 1) (by decide +kernel))) (fun _ h9 => h9) rfl dX6_leave_1 ?_
  refine lv_iload_n hx hb dX6_leave_4 rfl (lv_at hl 1 rfl) ?_
  refine xc_q (xr_V (As := [.int (nI nn)]) (rest := []) (κ := 1) ⟨hx, hb, hml, hown, hts⟩ (c_X2_personAt l O M (b + 1) (O.b1 hτ) (nI nn)) (cwV 1 hts gX6_leave_X2_personAt rfl rfl rfl (by decide +kernel) ⟨Nat.le_of_ble_eq_true rfl, Nat.le_of_ble_eq_true rfl⟩) hK hst hnw hS hW (O.b1 hτ) (by decide) rfl rfl rfl hl.1 rfl (Nat.le_of_ble_eq_true rfl) dX6_leave_5 ⟨Nat.zero_le _, Nat.zero_le _⟩) hS (fun r_3 M_1 H locs hq_2 hW hS => ?_)
  obtain ⟨hq_2a, hq_2b⟩ := hq_2
  rw [hq_2b] at hW
  rw [hq_2a]
  rw [xf_per_n hz.1.2.1 (Nat.le_refl nn) (by have := hz.n; omega)]
  refine W.eq (g2 := F0 m 8 ls [.null]) rfl ?_
  refine lv_astore_nN (lv' := [(2, .null), (0, .ref b), (1, .int (nI nn))]) hx hb dX6_leave_8 rfl hl (by decide) rfl (fun ls hl => ?_)
  refine lv_aload_nN hx hb dX6_leave_9 rfl (lv_at hl 0 rfl) ?_
  refine lv_ifnonnullN hx hb dX6_leave_10 ?_
  refine lv_iconst (v := (-1)) hx hb dX6_leave_13 (by decide) ?_
  exact W.iret (v := (-1)) hx hb hr (fun t ht hWm => ⟨⟨(-1), M, rfl, ⟨rfl, rfl⟩, xw_end ht hW⟩, hS.F ht⟩) hS.2.2 dX6_leave_14

set_option maxHeartbeats 4000000 in
set_option maxRecDepth 100000 in
/-- pass(n) -/
theorem cz_pass (l : Launch) {G : va_G} {g : Nat → ClassId} {t0 τ : Nat → Nat} {A : Nat → Prop} (O : xk_O τ A) (M : xm_T) (b : Nat) (hτ : τ b = 16) (hp : zp b M) {nn TT BB : Nat} (hz : zi (b + 1) M nn TT TT BB) {n : Nat} (hn1 : 1 ≤ n) (hn99 : n ≤ 99) (hTn : TT + n ≤ 9999) (hB : BB + 144 * n < 2 ^ 31) : Met l yX6_pass wsX6_pass ({ frames := 5, cells := 0, slots := 0, locals := 160 }) (va_Pc [.ref b, .int (nI n)] (xS_t G g t0 τ A M)) (va_Qi (fun r M' => r = zc_pw (b + 1) (nI 2) M' - zc_pw (b + 1) (nI 2) M ∧ zq b M M' (zm_it (zm_ti (b + 1)) n M) ∧ zq_d b M M') (fun M' t => xw_D G g τ M' t.heap) A) 0 0 A := by
  refine Met.ofW (cc := cX6_pass) (maxL := 4) (ret := (some .int)) (by decide) rfl ?_
  intro p e s m args below meth c s₁ B hml hv
  obtain ⟨rfl, hW, hK, hst, hnw⟩ := hv
  have hx := B.exec
  have hb := B.bytes
  have hr := B.returns
  have hts := atoms_spec (ws := wsX6_pass) B.pre
  have hown : s.vm.findClass RX6 = some m.cls := findClass_of_methodNamed B.named
  have hlocks := B.notSynchronized
  have hS : va_S A s.heap s.heap [] := va_S.rf
  have inX2 : ∀ w ∈ u_ws RX2 TX2 7, w ∈ wsX6_pass := by decide +kernel
  have inX6 : ∀ w ∈ u_ws RX6 TX6 6, w ∈ wsX6_pass := by decide +kernel
  have hl := lv_entry ([.ref b, .int (nI n)]) (n := 4) (Nat.le_of_ble_eq_true rfl)
  rw [lg_entry_eq]
  generalize (lg_sl ([.ref b, .int (nI n)]) ++ List.replicate (4 - (lg_sl ([.ref b, .int (nI n)])).length) Slot.unset).toArray = ls at hl ⊢
  have hl : lv_has ls 4 [(0, .ref b), (1, .int (nI n))] := hl
  obtain ⟨hpN, ⟨hn, hn6, hnM⟩, LP, hLP, hLM⟩ := id hp
  refine lv_iload_n hx hb dX6_pass_0 rfl (lv_at hl 1 rfl) ?_
  refine lv_iconst (v := (nI 1)) hx hb dX6_pass_1 (by decide) ?_
  refine lv_icmp_lt (tgt := 11) hx hb dX6_pass_2 (by decide) (fun c_1 => ?_) (fun c_1 => ?_)
  · exact absurd c_1 (nI_nlt hn1 (by omega))
  · refine lv_iload_n hx hb dX6_pass_5 rfl (lv_at hl 1 rfl) ?_
    refine lv_bipush (v := (nI 99)) hx hb dX6_pass_6 (by decide) ?_
    refine lv_icmp_le (tgt := 14) hx hb dX6_pass_8 (by decide) (fun c_2 => ?_) (fun c_2 => ?_)
    · refine lv_aload_n hx hb dX6_pass_14 rfl (lv_at hl 0 rfl) ?_
      refine xg_get (κ := 16) (ci := 6) (C := RX6) (T := TX6) (N := 6) hx hb hts inX6 hown hK hW hτ (by decide) rfl rfl 0 (by decide) (hts (.fieldLink RX6 10 "HalfTickets" "now" "LHalfTickets$Ministry;") (List.mem_of_getElem? (i := 1) (by decide +kernel))) (fun _ h9 => h9) rfl dX6_pass_15 ?_
      refine xg_get (κ := 1) (ci := 2) (C := RX2) (T := TX2) (N := 7) hx hb hts inX2 hown hK hW (O.b1 hτ) (by decide) rfl rfl 4 (by decide) (hts (.fieldLink RX6 113 "HalfTickets$Ministry" "ticks" "I") (List.mem_of_getElem? (i := 2) (by decide +kernel))) (fun _ h9 => h9) rfl dX6_pass_18 ?_
      refine lv_iload_n hx hb dX6_pass_21 rfl (lv_at hl 1 rfl) ?_
      refine lv_iadd hx hb dX6_pass_22 ?_
      refine lv_sipush (v := (nI 9999)) hx hb dX6_pass_23 (by decide) ?_
      refine lv_icmp_le (tgt := 32) hx hb dX6_pass_26 (by decide) (fun c_3 => ?_) (fun c_3 => ?_)
      · refine lv_aload_n hx hb dX6_pass_32 rfl (lv_at hl 0 rfl) ?_
        refine xg_get (κ := 16) (ci := 6) (C := RX6) (T := TX6) (N := 6) hx hb hts inX6 hown hK hW hτ (by decide) rfl rfl 2 (by decide) (hts (.fieldLink RX6 22 "HalfTickets" "history" "LHalfTickets$History;") (List.mem_of_getElem? (i := 3) (by decide +kernel))) (fun _ h9 => h9) rfl dX6_pass_33 ?_
        refine lv_aload_n hx hb dX6_pass_36 rfl (lv_at hl 0 rfl) ?_
        refine xg_get (κ := 16) (ci := 6) (C := RX6) (T := TX6) (N := 6) hx hb hts inX6 hown hK hW hτ (by decide) rfl rfl 0 (by decide) (hts (.fieldLink RX6 10 "HalfTickets" "now" "LHalfTickets$Ministry;") (List.mem_of_getElem? (i := 1) (by decide +kernel))) (fun _ h9 => h9) rfl dX6_pass_37 ?_
        refine xc_v (xr_V (As := [.ref (b + 1)]) (rest := []) (κ := 10) ⟨hx, hb, hml, hown, hts⟩ (c_X0_remember l O M (b + 165) (b + 1) (O.b3 hτ) (O.b1 hτ) (by omega) hn6 hnM (zp_H hpN)) (cwV 1 hts gX6_pass_X0_remember rfl rfl rfl (by decide +kernel) ⟨Nat.le_of_ble_eq_true rfl, Nat.le_of_ble_eq_true rfl⟩) hK hst hnw hS hW (O.b3 hτ) (by decide) rfl rfl rfl hl.1 rfl (Nat.le_of_ble_eq_true rfl) dX6_pass_40 ⟨Nat.zero_le _, Nat.zero_le _⟩) hS (fun M_4 H locs hq_5 hW hS => ?_)
        have hg := zq_g hq_5
        have ho : ∀ x, x < b + 165 ∨ b + 659 ≤ x → M_4 x = M x := fun x hx => hq_5.2.1 x (by omega)
        refine lv_aload_n hx hb dX6_pass_43 rfl (lv_at hl 0 rfl) ?_
        refine xg_get (κ := 16) (ci := 6) (C := RX6) (T := TX6) (N := 6) hx hb hts inX6 hown hK hW hτ (by decide) rfl rfl 0 (by decide) (hts (.fieldLink RX6 10 "HalfTickets" "now" "LHalfTickets$Ministry;") (List.mem_of_getElem? (i := 1) (by decide +kernel))) (fun _ h9 => h9) rfl dX6_pass_44 ?_
        refine lv_iconst (v := (nI 2)) hx hb dX6_pass_47 (by decide) ?_
        refine xc_i (xr_V (As := [.int (nI 2)]) (rest := []) (κ := 1) ⟨hx, hb, hml, hown, hts⟩ (c_X2_peopleWho l O M_4 (b + 1) (O.b1 hτ) (nI 2)) (cwV 1 hts gX6_pass_X2_peopleWho rfl rfl rfl (by decide +kernel) ⟨Nat.le_of_ble_eq_true rfl, Nat.le_of_ble_eq_true rfl⟩) hK hst hnw hS hW (O.b1 hτ) (by decide) rfl rfl rfl hl.1 rfl (Nat.le_of_ble_eq_true rfl) dX6_pass_48 ⟨Nat.zero_le _, Nat.zero_le _⟩) hS (fun r_9 M_7 H locs hq_8 hW hS => ?_)
        obtain ⟨hq_8a, hq_8b⟩ := hq_8
        rw [hq_8b] at hW
        rw [hq_8a]
        rw [show xf_sum (fun k => if M_4 (b + 1 + 2 * k + 34) 3 = nI 2 then nI 1 else nI 0) 24 = zc_pw (b + 1) (nI 2) M from zg_pw hg _]
        have hz1 := zi_g hz hg
        refine lv_istore_n (lv' := [(2, .int (zc_pw (b + 1) (nI 2) M)), (0, .ref b), (1, .int (nI n))]) hx hb dX6_pass_51 rfl hl (by decide) rfl (fun ls hl => ?_)
        refine lv_iconst (v := (nI 0)) hx hb dX6_pass_52 (by decide) ?_
        refine lv_istore_n (lv' := [(3, .int (nI 0)), (2, .int (zc_pw (b + 1) (nI 2) M)), (0, .ref b), (1, .int (nI n))]) hx hb dX6_pass_53 rfl hl (by decide) rfl (fun ls hl => ?_)
        refine xl_up (σ := Unit) n (fun kk zz H locs ls => xw_D G g τ (zm_it (zm_ti (b + 1)) kk M_4) H ∧ va_S A s.heap H locs ∧ lv_has ls 4 [(3, .int (nI kk)), (2, .int (zc_pw (b + 1) (nI 2) M)), (1, .int (nI n)), (0, .ref b)] ∧ True) (fun z54 H locs ls hI => ?_) (fun k54 z54 H locs ls hk54 hI ih54 => ?_) (k0 := 0) (z0 := ()) (Nat.zero_le _) ⟨hW, hS, lv_sub hl [0, 1, 3, 2] rfl, trivial⟩
        · obtain ⟨hW, hS, hl, hE54⟩ := hI
          refine lv_iload_n hx hb dX6_pass_54 rfl (lv_at hl 0 rfl) ?_
          refine lv_iload_n hx hb dX6_pass_55 rfl (lv_at hl 2 rfl) ?_
          refine lv_icmp_ge (tgt := 72) hx hb dX6_pass_56 (by decide) (fun c_10 => ?_) (fun c_10 => ?_)
          · refine lv_aload_n hx hb dX6_pass_72 rfl (lv_at hl 3 rfl) ?_
            refine xg_get (κ := 16) (ci := 6) (C := RX6) (T := TX6) (N := 6) hx hb hts inX6 hown hK hW hτ (by decide) rfl rfl 0 (by decide) (hts (.fieldLink RX6 10 "HalfTickets" "now" "LHalfTickets$Ministry;") (List.mem_of_getElem? (i := 1) (by decide +kernel))) (fun _ h9 => h9) rfl dX6_pass_73 ?_
            refine lv_iconst (v := (nI 2)) hx hb dX6_pass_76 (by decide) ?_
            refine xc_i (xr_V (As := [.int (nI 2)]) (rest := []) (κ := 1) ⟨hx, hb, hml, hown, hts⟩ (c_X2_peopleWho l O (zm_it (zm_ti (b + 1)) n M_4) (b + 1) (O.b1 hτ) (nI 2)) (cwV 1 hts gX6_pass_X2_peopleWho rfl rfl rfl (by decide +kernel) ⟨Nat.le_of_ble_eq_true rfl, Nat.le_of_ble_eq_true rfl⟩) hK hst hnw hS hW (O.b1 hτ) (by decide) rfl rfl rfl hl.1 rfl (Nat.le_of_ble_eq_true rfl) dX6_pass_77 ⟨Nat.zero_le _, Nat.zero_le _⟩) hS (fun r_13 M_11 H locs hq_12 hW hS => ?_)
            obtain ⟨hq_12a, hq_12b⟩ := hq_12
            rw [hq_12b] at hW
            rw [hq_12a]
            refine lv_iload_n hx hb dX6_pass_80 rfl (lv_at hl 1 rfl) ?_
            refine lv_isub hx hb dX6_pass_81 ?_
            exact W.iret (v := ((zc_pw (b + 1) (nI 2) (zm_it (zm_ti (b + 1)) n M_4)) - (zc_pw (b + 1) (nI 2) M))) hx hb hr (fun t ht hWm => ⟨⟨((zc_pw (b + 1) (nI 2) (zm_it (zm_ti (b + 1)) n M_4)) - (zc_pw (b + 1) (nI 2) M)), (zm_it (zm_ti (b + 1)) n M_4), rfl, ⟨rfl, zq_mk hp hq_5 (zZ_tn (zZ_rf hg) n) (zN (zi_tn n hz hB))⟩, xw_end ht hW⟩, hS.F ht⟩) hS.2.2 dX6_pass_82
          · exact absurd (nI_le (Nat.le_refl _) (by omega)) c_10
        · obtain ⟨hW, hS, hl, hE54⟩ := hI
          refine lv_iload_n hx hb dX6_pass_54 rfl (lv_at hl 0 rfl) ?_
          refine lv_iload_n hx hb dX6_pass_55 rfl (lv_at hl 2 rfl) ?_
          refine lv_icmp_ge (tgt := 72) hx hb dX6_pass_56 (by decide) (fun c_14 => ?_) (fun c_14 => ?_)
          · exact absurd c_14 (nI_ge hk54 (by omega))
          · refine lv_aload_n hx hb dX6_pass_59 rfl (lv_at hl 3 rfl) ?_
            refine xg_get (κ := 16) (ci := 6) (C := RX6) (T := TX6) (N := 6) hx hb hts inX6 hown hK hW hτ (by decide) rfl rfl 0 (by decide) (hts (.fieldLink RX6 10 "HalfTickets" "now" "LHalfTickets$Ministry;") (List.mem_of_getElem? (i := 1) (by decide +kernel))) (fun _ h9 => h9) rfl dX6_pass_60 ?_
            refine xc_v (xr_V (As := []) (rest := []) (κ := 1) ⟨hx, hb, hml, hown, hts⟩ (c_X2_tick l O (zm_it (zm_ti (b + 1)) k54 M_4) (b + 1) (O.b1 hτ) (zi_tn k54 hz1 (by omega)) (by omega)) (cwV 0 hts gX6_pass_X2_tick rfl rfl rfl (by decide +kernel) ⟨Nat.le_of_ble_eq_true rfl, Nat.le_of_ble_eq_true rfl⟩) hK hst hnw hS hW (O.b1 hτ) (by decide) rfl rfl rfl hl.1 rfl (Nat.le_of_ble_eq_true rfl) dX6_pass_63 ⟨Nat.zero_le _, Nat.zero_le _⟩) hS (fun M_15 H locs hq_16 hW hS => ?_)
            refine lv_iinc (v := (nI (k54 + 1))) (lv' := [(3, .int (nI (k54 + 1))), (2, .int (zc_pw (b + 1) (nI 2) M)), (1, .int (nI n)), (0, .ref b)]) hx hb dX6_pass_66 hl (k := 0) rfl ((nI_1 k54)) (by decide) rfl (fun ls hl => ?_)
            refine lv_goto (tgt := 54) hx hb dX6_pass_69 (by decide) ?_
            rw [hq_16] at hW
            exact ih54 () _ _ _ ⟨hW, hS, lv_sub hl [0, 1, 2, 3] rfl, trivial⟩
      · exact absurd (by rw [hz.1.2.2.1, nI_add]; exact nI_le hTn (by omega)) c_3
    · exact absurd (nI_le hn99 (by omega)) c_2

set_option maxHeartbeats 4000000 in
set_option maxRecDepth 100000 in
/-- save(i) -/
theorem cz_save (l : Launch) {G : va_G} {g : Nat → ClassId} {t0 τ : Nat → Nat} {A : Nat → Prop} (O : xk_O τ A) (M : xm_T) (b : Nat) (hτ : τ b = 16) (hp : zp b M) {i : Nat} (hi : i < 2) : Met l yX6_save wsX6_save ({ frames := 5, cells := 0, slots := 0, locals := 160 }) (va_Pc [.ref b, .int (nI i)] (xS_t G g t0 τ A M)) (va_Qi (fun r M' => r = M (b + 1) 4 ∧ M' = xu_p (xf_cp M (b + 82 * i + 660) (b + 1) 82) (b + 824) i (nI 1)) (fun M' t => xw_D G g τ M' t.heap) A) 0 0 A := by
  refine Met.ofW (cc := cX6_save) (maxL := 2) (ret := (some .int)) (by decide) rfl ?_
  intro p e s m args below meth c s₁ B hml hv
  obtain ⟨rfl, hW, hK, hst, hnw⟩ := hv
  have hx := B.exec
  have hb := B.bytes
  have hr := B.returns
  have hts := atoms_spec (ws := wsX6_save) B.pre
  have hown : s.vm.findClass RX6 = some m.cls := findClass_of_methodNamed B.named
  have hlocks := B.notSynchronized
  have hS : va_S A s.heap s.heap [] := va_S.rf
  have inX2 : ∀ w ∈ u_ws RX2 TX2 7, w ∈ wsX6_save := by decide +kernel
  have inX6 : ∀ w ∈ u_ws RX6 TX6 6, w ∈ wsX6_save := by decide +kernel
  have hl := lv_entry ([.ref b, .int (nI i)]) (n := 2) (Nat.le_of_ble_eq_true rfl)
  rw [lg_entry_eq]
  generalize (lg_sl ([.ref b, .int (nI i)]) ++ List.replicate (2 - (lg_sl ([.ref b, .int (nI i)])).length) Slot.unset).toArray = ls at hl ⊢
  have hl : lv_has ls 2 [(0, .ref b), (1, .int (nI i))] := hl
  obtain ⟨hpN, ⟨hn, hn6, hnM⟩, LP, hLP, hLM⟩ := id hp
  refine lv_iload_n hx hb dX6_save_0 rfl (lv_at hl 1 rfl) ?_
  refine lv_if_lt (tgt := 9) hx hb dX6_save_1 (by decide) (fun c_1 => ?_) (fun c_1 => ?_)
  · exact absurd c_1 (nI_pos (by omega))
  · refine lv_iload_n hx hb dX6_save_4 rfl (lv_at hl 1 rfl) ?_
    refine lv_iconst (v := (nI 2)) hx hb dX6_save_5 (by decide) ?_
    refine lv_icmp_lt (tgt := 12) hx hb dX6_save_6 (by decide) (fun c_2 => ?_) (fun c_2 => ?_)
    · refine lv_aload_n hx hb dX6_save_12 rfl (lv_at hl 0 rfl) ?_
      refine xg_get (κ := 16) (ci := 6) (C := RX6) (T := TX6) (N := 6) hx hb hts inX6 hown hK hW hτ (by decide) rfl rfl 3 (by decide) (hts (.fieldLink RX6 26 "HalfTickets" "slots" "[LHalfTickets$Ministry;") (List.mem_of_getElem? (i := 1) (by decide +kernel))) (fun _ h9 => h9) rfl dX6_save_13 ?_
      refine lv_iload_n hx hb dX6_save_16 rfl (lv_at hl 1 rfl) ?_
      refine xg_aldS (a := b) hx hb hK hW (O.b4 hτ) i rfl hi dX6_save_17 ?_
      refine lv_aload_n hx hb dX6_save_18 rfl (lv_at hl 0 rfl) ?_
      refine xg_get (κ := 16) (ci := 6) (C := RX6) (T := TX6) (N := 6) hx hb hts inX6 hown hK hW hτ (by decide) rfl rfl 0 (by decide) (hts (.fieldLink RX6 10 "HalfTickets" "now" "LHalfTickets$Ministry;") (List.mem_of_getElem? (i := 2) (by decide +kernel))) (fun _ h9 => h9) rfl dX6_save_19 ?_
      refine xc_v (xr_V (As := [.ref (b + 1)]) (rest := []) (κ := 1) ⟨hx, hb, hml, hown, hts⟩ (c_X2_become l O M (b + 82 * i + 660) (b + 1) (O.bs hτ hi) (O.b1 hτ) (by omega) (fun k hk => by rw [(hpN k hk).2.2.2 i hi, (hpN k hk).1])) (cwV 1 hts gX6_save_X2_become rfl rfl rfl (by decide +kernel) ⟨Nat.le_of_ble_eq_true rfl, Nat.le_of_ble_eq_true rfl⟩) hK hst hnw hS hW (O.bs hτ hi) (by decide) rfl rfl rfl hl.1 rfl (Nat.le_of_ble_eq_true rfl) dX6_save_22 ⟨Nat.zero_le _, Nat.zero_le _⟩) hS (fun M_3 H locs hq_4 hW hS => ?_)
      refine lv_aload_n hx hb dX6_save_25 rfl (lv_at hl 0 rfl) ?_
      refine xg_get (κ := 16) (ci := 6) (C := RX6) (T := TX6) (N := 6) hx hb hts inX6 hown hK hW hτ (by decide) rfl rfl 4 (by decide) (hts (.fieldLink RX6 30 "HalfTickets" "isSaved" "[Z") (List.mem_of_getElem? (i := 3) (by decide +kernel))) (fun _ h9 => h9) rfl dX6_save_26 ?_
      refine lv_iload_n hx hb dX6_save_29 rfl (lv_at hl 1 rfl) ?_
      refine lv_iconst (v := (nI 1)) hx hb dX6_save_30 (by decide) ?_
      refine xg_zast hx hb hK O hW hS (O.b5 hτ) i rfl hi rfl (zb_sv (xw_okp hW (O.b5 hτ) (by decide)) hi) dX6_save_31 (fun H locs hW hS => ?_)
      obtain ⟨M_6, eM_6⟩ : ∃ M9, M9 = xu_p M_3 (b + 824) i (nI 1) := ⟨_, rfl⟩
      rw [← eM_6] at hW
      refine lv_aload_n hx hb dX6_save_32 rfl (lv_at hl 0 rfl) ?_
      refine xg_get (κ := 16) (ci := 6) (C := RX6) (T := TX6) (N := 6) hx hb hts inX6 hown hK hW hτ (by decide) rfl rfl 0 (by decide) (hts (.fieldLink RX6 10 "HalfTickets" "now" "LHalfTickets$Ministry;") (List.mem_of_getElem? (i := 2) (by decide +kernel))) (fun _ h9 => h9) rfl dX6_save_33 ?_
      refine xg_get (κ := 1) (ci := 2) (C := RX2) (T := TX2) (N := 7) hx hb hts inX2 hown hK hW (O.b1 hτ) (by decide) rfl rfl 4 (by decide) (hts (.fieldLink RX6 113 "HalfTickets$Ministry" "ticks" "I") (List.mem_of_getElem? (i := 4) (by decide +kernel))) (fun _ h9 => h9) rfl dX6_save_36 ?_
      exact W.iret (v := (M_6 (b + 1) 4)) hx hb hr (fun t ht hWm => ⟨⟨(M_6 (b + 1) 4), M_6, rfl, ⟨(by rw [eM_6, xu_n _ (Or.inl (by omega)), hq_4, xf_out (by omega)]), (by rw [eM_6, hq_4])⟩, xw_end ht hW⟩, hS.F ht⟩) hS.2.2 dX6_save_39
    · exact absurd (nI_lt hi (by omega)) c_2

set_option maxHeartbeats 4000000 in
set_option maxRecDepth 100000 in
/-- restore(i) -/
theorem cz_restore (l : Launch) {G : va_G} {g : Nat → ClassId} {t0 τ : Nat → Nat} {A : Nat → Prop} (O : xk_O τ A) (M : xm_T) (b : Nat) (hτ : τ b = 16) (hp : zp b M) {i : Nat} (hi : i < 2) : Met l yX6_restore wsX6_restore ({ frames := 5, cells := 0, slots := 0, locals := 160 }) (va_Pc [.ref b, .int (nI i)] (xS_t G g t0 τ A M)) (va_Qi (fun r M' => (M (b + 824) i = 0 ∧ r = -5 ∧ M' = M) ∨ (¬ M (b + 824) i = 0 ∧ r = M' (b + 1) 4 ∧ zq b M M' (xf_cp M (b + 1) (b + 82 * i + 660) 82) ∧ zq_d b M M')) (fun M' t => xw_D G g τ M' t.heap) A) 0 0 A := by
  refine Met.ofW (cc := cX6_restore) (maxL := 2) (ret := (some .int)) (by decide) rfl ?_
  intro p e s m args below meth c s₁ B hml hv
  obtain ⟨rfl, hW, hK, hst, hnw⟩ := hv
  have hx := B.exec
  have hb := B.bytes
  have hr := B.returns
  have hts := atoms_spec (ws := wsX6_restore) B.pre
  have hown : s.vm.findClass RX6 = some m.cls := findClass_of_methodNamed B.named
  have hlocks := B.notSynchronized
  have hS : va_S A s.heap s.heap [] := va_S.rf
  have inX2 : ∀ w ∈ u_ws RX2 TX2 7, w ∈ wsX6_restore := by decide +kernel
  have inX6 : ∀ w ∈ u_ws RX6 TX6 6, w ∈ wsX6_restore := by decide +kernel
  have hl := lv_entry ([.ref b, .int (nI i)]) (n := 2) (Nat.le_of_ble_eq_true rfl)
  rw [lg_entry_eq]
  generalize (lg_sl ([.ref b, .int (nI i)]) ++ List.replicate (2 - (lg_sl ([.ref b, .int (nI i)])).length) Slot.unset).toArray = ls at hl ⊢
  have hl : lv_has ls 2 [(0, .ref b), (1, .int (nI i))] := hl
  obtain ⟨hpN, ⟨hn, hn6, hnM⟩, LP, hLP, hLM⟩ := id hp
  refine lv_iload_n hx hb dX6_restore_0 rfl (lv_at hl 1 rfl) ?_
  refine lv_if_lt (tgt := 9) hx hb dX6_restore_1 (by decide) (fun c_1 => ?_) (fun c_1 => ?_)
  · exact absurd c_1 (nI_pos (by omega))
  · refine lv_iload_n hx hb dX6_restore_4 rfl (lv_at hl 1 rfl) ?_
    refine lv_iconst (v := (nI 2)) hx hb dX6_restore_5 (by decide) ?_
    refine lv_icmp_lt (tgt := 12) hx hb dX6_restore_6 (by decide) (fun c_2 => ?_) (fun c_2 => ?_)
    · refine lv_aload_n hx hb dX6_restore_12 rfl (lv_at hl 0 rfl) ?_
      refine xg_get (κ := 16) (ci := 6) (C := RX6) (T := TX6) (N := 6) hx hb hts inX6 hown hK hW hτ (by decide) rfl rfl 4 (by decide) (hts (.fieldLink RX6 30 "HalfTickets" "isSaved" "[Z") (List.mem_of_getElem? (i := 1) (by decide +kernel))) (fun _ h9 => h9) rfl dX6_restore_13 ?_
      refine lv_iload_n hx hb dX6_restore_16 rfl (lv_at hl 1 rfl) ?_
      refine xg_zald hx hb hK hW (O.b5 hτ) i rfl hi dX6_restore_17 ?_
      refine lv_if_ne (tgt := 24) hx hb dX6_restore_18 (by decide) (fun c_3 => ?_) (fun c_3 => ?_)
      · refine lv_aload_n hx hb dX6_restore_24 rfl (lv_at hl 0 rfl) ?_
        refine xg_get (κ := 16) (ci := 6) (C := RX6) (T := TX6) (N := 6) hx hb hts inX6 hown hK hW hτ (by decide) rfl rfl 2 (by decide) (hts (.fieldLink RX6 22 "HalfTickets" "history" "LHalfTickets$History;") (List.mem_of_getElem? (i := 2) (by decide +kernel))) (fun _ h9 => h9) rfl dX6_restore_25 ?_
        refine lv_aload_n hx hb dX6_restore_28 rfl (lv_at hl 0 rfl) ?_
        refine xg_get (κ := 16) (ci := 6) (C := RX6) (T := TX6) (N := 6) hx hb hts inX6 hown hK hW hτ (by decide) rfl rfl 0 (by decide) (hts (.fieldLink RX6 10 "HalfTickets" "now" "LHalfTickets$Ministry;") (List.mem_of_getElem? (i := 3) (by decide +kernel))) (fun _ h9 => h9) rfl dX6_restore_29 ?_
        refine xc_v (xr_V (As := [.ref (b + 1)]) (rest := []) (κ := 10) ⟨hx, hb, hml, hown, hts⟩ (c_X0_remember l O M (b + 165) (b + 1) (O.b3 hτ) (O.b1 hτ) (by omega) hn6 hnM (zp_H hpN)) (cwV 1 hts gX6_restore_X0_remember rfl rfl rfl (by decide +kernel) ⟨Nat.le_of_ble_eq_true rfl, Nat.le_of_ble_eq_true rfl⟩) hK hst hnw hS hW (O.b3 hτ) (by decide) rfl rfl rfl hl.1 rfl (Nat.le_of_ble_eq_true rfl) dX6_restore_32 ⟨Nat.zero_le _, Nat.zero_le _⟩) hS (fun M_4 H locs hq_5 hW hS => ?_)
        have hg := zq_g hq_5
        have ho : ∀ x, x < b + 165 ∨ b + 659 ≤ x → M_4 x = M x := fun x hx => hq_5.2.1 x (by omega)
        refine lv_aload_n hx hb dX6_restore_35 rfl (lv_at hl 0 rfl) ?_
        refine xg_get (κ := 16) (ci := 6) (C := RX6) (T := TX6) (N := 6) hx hb hts inX6 hown hK hW hτ (by decide) rfl rfl 0 (by decide) (hts (.fieldLink RX6 10 "HalfTickets" "now" "LHalfTickets$Ministry;") (List.mem_of_getElem? (i := 3) (by decide +kernel))) (fun _ h9 => h9) rfl dX6_restore_36 ?_
        refine lv_aload_n hx hb dX6_restore_39 rfl (lv_at hl 0 rfl) ?_
        refine xg_get (κ := 16) (ci := 6) (C := RX6) (T := TX6) (N := 6) hx hb hts inX6 hown hK hW hτ (by decide) rfl rfl 3 (by decide) (hts (.fieldLink RX6 26 "HalfTickets" "slots" "[LHalfTickets$Ministry;") (List.mem_of_getElem? (i := 4) (by decide +kernel))) (fun _ h9 => h9) rfl dX6_restore_40 ?_
        refine lv_iload_n hx hb dX6_restore_43 rfl (lv_at hl 1 rfl) ?_
        refine xg_aldS (a := b) hx hb hK hW (O.b4 hτ) i rfl hi dX6_restore_44 ?_
        refine xc_v (xr_V (As := [.ref (b + 82 * i + 660)]) (rest := []) (κ := 1) ⟨hx, hb, hml, hown, hts⟩ (c_X2_become l O M_4 (b + 1) (b + 82 * i + 660) (O.b1 hτ) (O.bs hτ hi) (by omega) (fun k hk => by rw [ho _ (by omega), ho _ (by omega), (hpN k hk).2.2.2 i hi, (hpN k hk).1])) (cwV 1 hts gX6_restore_X2_become rfl rfl rfl (by decide +kernel) ⟨Nat.le_of_ble_eq_true rfl, Nat.le_of_ble_eq_true rfl⟩) hK hst hnw hS hW (O.b1 hτ) (by decide) rfl rfl rfl hl.1 rfl (Nat.le_of_ble_eq_true rfl) dX6_restore_45 ⟨Nat.zero_le _, Nat.zero_le _⟩) hS (fun M_7 H locs hq_8 hW hS => ?_)
        refine lv_aload_n hx hb dX6_restore_48 rfl (lv_at hl 0 rfl) ?_
        refine xg_get (κ := 16) (ci := 6) (C := RX6) (T := TX6) (N := 6) hx hb hts inX6 hown hK hW hτ (by decide) rfl rfl 0 (by decide) (hts (.fieldLink RX6 10 "HalfTickets" "now" "LHalfTickets$Ministry;") (List.mem_of_getElem? (i := 3) (by decide +kernel))) (fun _ h9 => h9) rfl dX6_restore_49 ?_
        refine xg_get (κ := 1) (ci := 2) (C := RX2) (T := TX2) (N := 7) hx hb hts inX2 hown hK hW (O.b1 hτ) (by decide) rfl rfl 4 (by decide) (hts (.fieldLink RX6 113 "HalfTickets$Ministry" "ticks" "I") (List.mem_of_getElem? (i := 5) (by decide +kernel))) (fun _ h9 => h9) rfl dX6_restore_52 ?_
        exact W.iret (v := (M_7 (b + 1) 4)) hx hb hr (fun t ht hWm => ⟨⟨(M_7 (b + 1) 4), M_7, rfl, (Or.inr ⟨c_3, rfl, zq_mk hp hq_5 ⟨fun c9 hc9 => by rw [hq_8, xf_in (by omega), xf_in (by omega), ho _ (by omega)], fun x hx => xf_out (by omega), fun x hx => by rw [hq_8]; exact xf_out (by omega)⟩ (fun k hk => by rw [xf_in (by omega), show b + 1 + 2 * k + 34 - (b + 1) + (b + 82 * i + 660) = (b + 82 * i + 660) + 2 * k + 34 by omega]; exact (hpN k hk).2.2.2 i hi)⟩), xw_end ht hW⟩, hS.F ht⟩) hS.2.2 dX6_restore_55
      · refine lv_bipush (v := (-5)) hx hb dX6_restore_21 (by decide) ?_
        exact W.iret (v := (-5)) hx hb hr (fun t ht hWm => ⟨⟨(-5), M, rfl, (Or.inl ⟨c_3, rfl, rfl⟩), xw_end ht hW⟩, hS.F ht⟩) hS.2.2 dX6_restore_23
    · exact absurd (nI_lt hi (by omega)) c_2

set_option maxHeartbeats 4000000 in
set_option maxRecDepth 100000 in
/-- read() -/
theorem cz_read (l : Launch) {G : va_G} {g : Nat → ClassId} {t0 τ : Nat → Nat} {A : Nat → Prop} (O : xk_O τ A) (M : xm_T) (b : Nat) (hτ : τ b = 16) (hp : zp b M) {nn TT GG BB : Nat} (hz : zi (b + 1) M nn TT GG BB) {L NN : Nat} {em : Nat → Nat} {ee : Nat → Nat → Nat} (hL : L ≤ 60) (hM : M (b + 825) 1 = nI L) (hzt : zt (M (b + 826)) L em ee) (hv : zt_v NN em ee) (hN : L + 1 = zt_s em NN) (hnn : nn + NN ≤ 24) : Met l yX6_read wsX6_read ({ frames := 5, cells := 0, slots := 0, locals := 160 }) (va_Pc [.ref b] (xS_t G g t0 τ A M)) (va_Qi (fun r M' => r = nI (nn + NN) ∧ zq b M M' (zm_al (b + 1) em ee NN M) ∧ M' (b + 825) 1 = nI 0) (fun M' t => xw_D G g τ M' t.heap) A) 0 0 A := by
  refine Met.ofW (cc := cX6_read) (maxL := 1) (ret := (some .int)) (by decide) rfl ?_
  intro p e s m args below meth c s₁ B hml hv
  obtain ⟨rfl, hW, hK, hst, hnw⟩ := hv
  have hx := B.exec
  have hb := B.bytes
  have hr := B.returns
  have hts := atoms_spec (ws := wsX6_read) B.pre
  have hown : s.vm.findClass RX6 = some m.cls := findClass_of_methodNamed B.named
  have hlocks := B.notSynchronized
  have hS : va_S A s.heap s.heap [] := va_S.rf
  have inX2 : ∀ w ∈ u_ws RX2 TX2 7, w ∈ wsX6_read := by decide +kernel
  have inX6 : ∀ w ∈ u_ws RX6 TX6 6, w ∈ wsX6_read := by decide +kernel
  have hl := lv_entry ([.ref b]) (n := 1) (Nat.le_of_ble_eq_true rfl)
  rw [lg_entry_eq]
  generalize (lg_sl ([.ref b]) ++ List.replicate (1 - (lg_sl ([.ref b])).length) Slot.unset).toArray = ls at hl ⊢
  have hl : lv_has ls 1 [(0, .ref b)] := hl
  obtain ⟨hpN, ⟨hn, hn6, hnM⟩, LP, hLP, hLM⟩ := id hp
  refine lv_aload_n hx hb dX6_read_0 rfl (lv_at hl 0 rfl) ?_
  refine xg_get (κ := 16) (ci := 6) (C := RX6) (T := TX6) (N := 6) hx hb hts inX6 hown hK hW hτ (by decide) rfl rfl 5 (by decide) (hts (.fieldLink RX6 37 "HalfTickets" "pad" "LHalfTickets$Pad;") (List.mem_of_getElem? (i := 1) (by decide +kernel))) (fun _ h9 => h9) rfl dX6_read_1 ?_
  refine xc_i (xr_V (As := []) (rest := []) (κ := 14) ⟨hx, hb, hml, hown, hts⟩ (c_X3_firstFault l O M (b + 825) (O.b6 hτ) hL hM hzt hv hN) (cwV 0 hts gX6_read_X3_firstFault rfl rfl rfl (by decide +kernel) ⟨Nat.le_of_ble_eq_true rfl, Nat.le_of_ble_eq_true rfl⟩) hK hst hnw hS hW (O.b6 hτ) (by decide) rfl rfl rfl hl.1 rfl (Nat.le_of_ble_eq_true rfl) dX6_read_4 ⟨Nat.zero_le _, Nat.zero_le _⟩) hS (fun r_3 M_1 H locs hq_2 hW hS => ?_)
  obtain ⟨hq_2a, hq_2b⟩ := hq_2
  rw [hq_2b] at hW
  rw [hq_2a]
  refine lv_bipush (v := (-6)) hx hb dX6_read_7 (by decide) ?_
  refine lv_icmp_eq (tgt := 15) hx hb dX6_read_9 (by decide) (fun c_4 => ?_) (fun c_4 => ?_)
  · refine lv_aload_n hx hb dX6_read_15 rfl (lv_at hl 0 rfl) ?_
    refine xg_get (κ := 16) (ci := 6) (C := RX6) (T := TX6) (N := 6) hx hb hts inX6 hown hK hW hτ (by decide) rfl rfl 0 (by decide) (hts (.fieldLink RX6 10 "HalfTickets" "now" "LHalfTickets$Ministry;") (List.mem_of_getElem? (i := 2) (by decide +kernel))) (fun _ h9 => h9) rfl dX6_read_16 ?_
    refine xg_get (κ := 1) (ci := 2) (C := RX2) (T := TX2) (N := 7) hx hb hts inX2 hown hK hW (O.b1 hτ) (by decide) rfl rfl 3 (by decide) (hts (.fieldLink RX6 91 "HalfTickets$Ministry" "people" "I") (List.mem_of_getElem? (i := 3) (by decide +kernel))) (fun _ h9 => h9) rfl dX6_read_19 ?_
    refine lv_aload_n hx hb dX6_read_22 rfl (lv_at hl 0 rfl) ?_
    refine xg_get (κ := 16) (ci := 6) (C := RX6) (T := TX6) (N := 6) hx hb hts inX6 hown hK hW hτ (by decide) rfl rfl 5 (by decide) (hts (.fieldLink RX6 37 "HalfTickets" "pad" "LHalfTickets$Pad;") (List.mem_of_getElem? (i := 1) (by decide +kernel))) (fun _ h9 => h9) rfl dX6_read_23 ?_
    refine xc_i (xr_V (As := []) (rest := [.int (M (b + 1) 3)]) (κ := 14) ⟨hx, hb, hml, hown, hts⟩ (c_X3_errands l O M (b + 825) (O.b6 hτ) hL hM hzt hv hN) (cwV 0 hts gX6_read_X3_errands rfl rfl rfl (by decide +kernel) ⟨Nat.le_of_ble_eq_true rfl, Nat.le_of_ble_eq_true rfl⟩) hK hst hnw hS hW (O.b6 hτ) (by decide) rfl rfl rfl hl.1 rfl (Nat.le_of_ble_eq_true rfl) dX6_read_26 ⟨Nat.zero_le _, Nat.zero_le _⟩) hS (fun r_7 M_5 H locs hq_6 hW hS => ?_)
    obtain ⟨hq_6a, hq_6b⟩ := hq_6
    rw [hq_6b] at hW
    rw [hq_6a]
    refine lv_iadd hx hb dX6_read_29 ?_
    refine lv_bipush (v := (nI 24)) hx hb dX6_read_30 (by decide) ?_
    refine lv_icmp_le (tgt := 38) hx hb dX6_read_32 (by decide) (fun c_8 => ?_) (fun c_8 => ?_)
    · refine lv_aload_n hx hb dX6_read_38 rfl (lv_at hl 0 rfl) ?_
      refine xg_get (κ := 16) (ci := 6) (C := RX6) (T := TX6) (N := 6) hx hb hts inX6 hown hK hW hτ (by decide) rfl rfl 2 (by decide) (hts (.fieldLink RX6 22 "HalfTickets" "history" "LHalfTickets$History;") (List.mem_of_getElem? (i := 4) (by decide +kernel))) (fun _ h9 => h9) rfl dX6_read_39 ?_
      refine lv_aload_n hx hb dX6_read_42 rfl (lv_at hl 0 rfl) ?_
      refine xg_get (κ := 16) (ci := 6) (C := RX6) (T := TX6) (N := 6) hx hb hts inX6 hown hK hW hτ (by decide) rfl rfl 0 (by decide) (hts (.fieldLink RX6 10 "HalfTickets" "now" "LHalfTickets$Ministry;") (List.mem_of_getElem? (i := 2) (by decide +kernel))) (fun _ h9 => h9) rfl dX6_read_43 ?_
      refine xc_v (xr_V (As := [.ref (b + 1)]) (rest := []) (κ := 10) ⟨hx, hb, hml, hown, hts⟩ (c_X0_remember l O M (b + 165) (b + 1) (O.b3 hτ) (O.b1 hτ) (by omega) hn6 hnM (zp_H hpN)) (cwV 1 hts gX6_read_X0_remember rfl rfl rfl (by decide +kernel) ⟨Nat.le_of_ble_eq_true rfl, Nat.le_of_ble_eq_true rfl⟩) hK hst hnw hS hW (O.b3 hτ) (by decide) rfl rfl rfl hl.1 rfl (Nat.le_of_ble_eq_true rfl) dX6_read_46 ⟨Nat.zero_le _, Nat.zero_le _⟩) hS (fun M_9 H locs hq_10 hW hS => ?_)
      have hg := zq_g hq_10
      have ho : ∀ x, x < b + 165 ∨ b + 659 ≤ x → M_9 x = M x := fun x hx => hq_10.2.1 x (by omega)
      refine lv_aload_n hx hb dX6_read_49 rfl (lv_at hl 0 rfl) ?_
      refine xg_get (κ := 16) (ci := 6) (C := RX6) (T := TX6) (N := 6) hx hb hts inX6 hown hK hW hτ (by decide) rfl rfl 0 (by decide) (hts (.fieldLink RX6 10 "HalfTickets" "now" "LHalfTickets$Ministry;") (List.mem_of_getElem? (i := 2) (by decide +kernel))) (fun _ h9 => h9) rfl dX6_read_50 ?_
      refine lv_aload_n hx hb dX6_read_53 rfl (lv_at hl 0 rfl) ?_
      refine xg_get (κ := 16) (ci := 6) (C := RX6) (T := TX6) (N := 6) hx hb hts inX6 hown hK hW hτ (by decide) rfl rfl 5 (by decide) (hts (.fieldLink RX6 37 "HalfTickets" "pad" "LHalfTickets$Pad;") (List.mem_of_getElem? (i := 1) (by decide +kernel))) (fun _ h9 => h9) rfl dX6_read_54 ?_
      have hz1 := zi_g hz hg
      refine xc_v (xr_V (As := [.ref (b + 825)]) (rest := []) (κ := 1) ⟨hx, hb, hml, hown, hts⟩ (c_X2_comeAll l O M_9 (b + 1) (b + 825) (O.b1 hτ) (O.b6 hτ) (by omega) hz1 hL (by rw [ho _ (by omega)]; exact hM) (by rw [ho _ (by omega)]; exact hzt) hv hN hnn) (cwV 1 hts gX6_read_X2_admitAll rfl rfl rfl (by decide +kernel) ⟨Nat.le_of_ble_eq_true rfl, Nat.le_of_ble_eq_true rfl⟩) hK hst hnw hS hW (O.b1 hτ) (by decide) rfl rfl rfl hl.1 rfl (Nat.le_of_ble_eq_true rfl) dX6_read_57 ⟨Nat.zero_le _, Nat.zero_le _⟩) hS (fun M_12 H locs hq_13 hW hS => ?_)
      have hz2 := zi_al hz1 NN hv hnn
      rw [← hq_13] at hz2
      obtain ⟨hq1, hq2⟩ := zq_mk (N := zm_al (b + 1) em ee NN M) (M' := M_12) hp hq_10 (by rw [hq_13]; exact zZ_al (zZ_rf hg) NN (fun _ _ => ⟨rfl, fun _ _ => rfl⟩)) (zN (zi_al hz NN hv hnn))
      refine lv_aload_n hx hb dX6_read_60 rfl (lv_at hl 0 rfl) ?_
      refine xg_get (κ := 16) (ci := 6) (C := RX6) (T := TX6) (N := 6) hx hb hts inX6 hown hK hW hτ (by decide) rfl rfl 5 (by decide) (hts (.fieldLink RX6 37 "HalfTickets" "pad" "LHalfTickets$Pad;") (List.mem_of_getElem? (i := 1) (by decide +kernel))) (fun _ h9 => h9) rfl dX6_read_61 ?_
      refine xc_v (xr_V (As := []) (rest := []) (κ := 14) ⟨hx, hb, hml, hown, hts⟩ (c_X3_clear l O M_12 (b + 825) (O.b6 hτ)) (cwV 0 hts gX6_read_X3_clear rfl rfl rfl (by decide +kernel) ⟨Nat.le_of_ble_eq_true rfl, Nat.le_of_ble_eq_true rfl⟩) hK hst hnw hS hW (O.b6 hτ) (by decide) rfl rfl rfl hl.1 rfl (Nat.le_of_ble_eq_true rfl) dX6_read_64 ⟨Nat.zero_le _, Nat.zero_le _⟩) hS (fun M_15 H locs hq_16 hW hS => ?_)
      refine lv_aload_n hx hb dX6_read_67 rfl (lv_at hl 0 rfl) ?_
      refine xg_get (κ := 16) (ci := 6) (C := RX6) (T := TX6) (N := 6) hx hb hts inX6 hown hK hW hτ (by decide) rfl rfl 0 (by decide) (hts (.fieldLink RX6 10 "HalfTickets" "now" "LHalfTickets$Ministry;") (List.mem_of_getElem? (i := 2) (by decide +kernel))) (fun _ h9 => h9) rfl dX6_read_68 ?_
      refine xg_get (κ := 1) (ci := 2) (C := RX2) (T := TX2) (N := 7) hx hb hts inX2 hown hK hW (O.b1 hτ) (by decide) rfl rfl 3 (by decide) (hts (.fieldLink RX6 91 "HalfTickets$Ministry" "people" "I") (List.mem_of_getElem? (i := 3) (by decide +kernel))) (fun _ h9 => h9) rfl dX6_read_71 ?_
      exact W.iret (v := (M_15 (b + 1) 3)) hx hb hr (fun t ht hWm => ⟨⟨(M_15 (b + 1) 3), M_15, rfl, ⟨(by rw [hq_16, xu_n _ (Or.inl (by omega))]; exact hz2.1.2.1), (by
          have e9 : ∀ x, x ≠ b + 825 → M_15 x = M_12 x := fun x hx => by rw [hq_16]; exact xr_n _ _ hx
          obtain ⟨⟨p1, ⟨n9, p2, p3⟩, -⟩, q2, q3, q4⟩ := hq1
          exact ⟨⟨fun k hk => ⟨by rw [e9 _ (by omega)]; exact (p1 k hk).1, by rw [e9 _ (by omega)]; exact (p1 k hk).2.1, fun i hi => by rw [e9 _ (by omega)]; exact (p1 k hk).2.2.1 i hi, fun i hi => by rw [e9 _ (by omega)]; exact (p1 k hk).2.2.2 i hi⟩, ⟨n9, p2, by rw [e9 _ (by omega)]; exact p3⟩, 0, Nat.zero_le _, by rw [hq_16]; exact xu_s _ _ _ _⟩, fun x hx => by rw [e9 _ (by omega)]; exact q2 x hx, fun x h1 h2 => by rw [e9 _ (by omega)]; exact q3 x h1 h2, fun x h1 h2 => by rw [e9 _ (by omega)]; exact q4 x h1 h2⟩), (by rw [hq_16]; exact xu_s _ _ _ _)⟩, xw_end ht hW⟩, hS.F ht⟩) hS.2.2 dX6_read_74
    · exact absurd (by rw [hz.1.2.1, nI_add]; exact nI_le hnn (by omega)) c_8
  · exact absurd rfl c_4

set_option maxHeartbeats 4000000 in
set_option maxRecDepth 100000 in
/-- put(c) -/
theorem cz_put (l : Launch) {G : va_G} {g : Nat → ClassId} {t0 τ : Nat → Nat} {A : Nat → Prop} (O : xk_O τ A) (M : xm_T) (b : Nat) (hτ : τ b = 16) (hp : zp b M) {c0 : Int64} {q : Nat} (hq : q < 60) (hM : M (b + 825) 1 = nI q) (hc : xc_n c0 = nI 1) : Met l yX6_put wsX6_put ({ frames := 5, cells := 0, slots := 0, locals := 160 }) (va_Pc [.ref b, .long c0] (xS_t G g t0 τ A M)) (va_Qi (fun r M' => r = nI (q + 1) ∧ xf_app M M' (b + 825) q 1 c0) (fun M' t => xw_D G g τ M' t.heap) A) 0 0 A := by
  refine Met.ofW (cc := cX6_put) (maxL := 4) (ret := (some .int)) (by decide) rfl ?_
  intro p e s m args below meth c s₁ B hml hv
  obtain ⟨rfl, hW, hK, hst, hnw⟩ := hv
  have hx := B.exec
  have hb := B.bytes
  have hr := B.returns
  have hts := atoms_spec (ws := wsX6_put) B.pre
  have hown : s.vm.findClass RX6 = some m.cls := findClass_of_methodNamed B.named
  have hlocks := B.notSynchronized
  have hS : va_S A s.heap s.heap [] := va_S.rf
  have inX6 : ∀ w ∈ u_ws RX6 TX6 6, w ∈ wsX6_put := by decide +kernel
  have hl := lv_entry ([.ref b, .long c0]) (n := 4) (Nat.le_of_ble_eq_true rfl)
  rw [lg_entry_eq]
  generalize (lg_sl ([.ref b, .long c0]) ++ List.replicate (4 - (lg_sl ([.ref b, .long c0])).length) Slot.unset).toArray = ls at hl ⊢
  have hl : lv_has ls 4 [(0, .ref b), (1, .long c0)] := hl
  obtain ⟨hpN, ⟨hn, hn6, hnM⟩, LP, hLP, hLM⟩ := id hp
  refine lv_lload_n hx hb dX6_put_0 rfl (lv_at hl 1 rfl) ?_
  refine xc_i (xr_S (As := [.long c0]) (rest := []) ⟨hx, hb, hml, hown, hts⟩ (c_X3_charactersIn l O M c0) (va_cwS 1 hts gX6_put_X3_charactersIn rfl rfl rfl (by decide +kernel) ⟨Nat.le_of_ble_eq_true rfl, Nat.le_of_ble_eq_true rfl⟩) hK hst hnw hS hW rfl hl.1 rfl (Nat.le_of_ble_eq_true rfl) dX6_put_1 ⟨Nat.zero_le _, Nat.zero_le _⟩) hS (fun r_3 M_1 H locs hq_2 hW hS => ?_)
  obtain ⟨hq_2a, hq_2b⟩ := hq_2
  rw [hq_2b] at hW
  rw [hq_2a]
  rw [hc]
  refine lv_istore_n (lv' := [(3, .int (nI 1)), (0, .ref b), (1, .long c0)]) hx hb dX6_put_4 rfl hl (by decide) rfl (fun ls hl => ?_)
  refine lv_iload_n hx hb dX6_put_5 rfl (lv_at hl 0 rfl) ?_
  refine lv_if_ne (tgt := 12) hx hb dX6_put_6 (by decide) (fun c_4 => ?_) (fun c_4 => ?_)
  · refine lv_aload_n hx hb dX6_put_12 rfl (lv_at hl 1 rfl) ?_
    refine xg_get (κ := 16) (ci := 6) (C := RX6) (T := TX6) (N := 6) hx hb hts inX6 hown hK hW hτ (by decide) rfl rfl 5 (by decide) (hts (.fieldLink RX6 37 "HalfTickets" "pad" "LHalfTickets$Pad;") (List.mem_of_getElem? (i := 1) (by decide +kernel))) (fun _ h9 => h9) rfl dX6_put_13 ?_
    refine xc_i (xr_V (As := []) (rest := []) (κ := 14) ⟨hx, hb, hml, hown, hts⟩ (c_X3_length l O M (b + 825) (O.b6 hτ)) (cwV 0 hts gX6_put_X3_length rfl rfl rfl (by decide +kernel) ⟨Nat.le_of_ble_eq_true rfl, Nat.le_of_ble_eq_true rfl⟩) hK hst hnw hS hW (O.b6 hτ) (by decide) rfl rfl rfl hl.1 rfl (Nat.le_of_ble_eq_true rfl) dX6_put_16 ⟨Nat.zero_le _, Nat.zero_le _⟩) hS (fun r_7 M_5 H locs hq_6 hW hS => ?_)
    obtain ⟨hq_6a, hq_6b⟩ := hq_6
    rw [hq_6b] at hW
    rw [hq_6a]
    refine lv_iload_n hx hb dX6_put_19 rfl (lv_at hl 0 rfl) ?_
    refine lv_iadd hx hb dX6_put_20 ?_
    refine lv_bipush (v := (nI 60)) hx hb dX6_put_21 (by decide) ?_
    refine lv_icmp_le (tgt := 29) hx hb dX6_put_23 (by decide) (fun c_8 => ?_) (fun c_8 => ?_)
    · refine lv_aload_n hx hb dX6_put_29 rfl (lv_at hl 1 rfl) ?_
      refine xg_get (κ := 16) (ci := 6) (C := RX6) (T := TX6) (N := 6) hx hb hts inX6 hown hK hW hτ (by decide) rfl rfl 5 (by decide) (hts (.fieldLink RX6 37 "HalfTickets" "pad" "LHalfTickets$Pad;") (List.mem_of_getElem? (i := 1) (by decide +kernel))) (fun _ h9 => h9) rfl dX6_put_30 ?_
      refine lv_lload_n hx hb dX6_put_33 rfl (lv_at hl 2 rfl) ?_
      refine lv_iload_n hx hb dX6_put_34 rfl (lv_at hl 0 rfl) ?_
      refine xc_v (xr_V (As := [.long c0, .int (nI 1)]) (rest := []) (κ := 14) ⟨hx, hb, hml, hown, hts⟩ (c_X3_append l O M (b + 825) (O.b6 hτ) c0 (show q + 1 ≤ 60 from hq) hM) (cwV 2 hts gX6_put_X3_append rfl rfl rfl (by decide +kernel) ⟨Nat.le_of_ble_eq_true rfl, Nat.le_of_ble_eq_true rfl⟩) hK hst hnw hS hW (O.b6 hτ) (by decide) rfl rfl rfl hl.1 rfl (Nat.le_of_ble_eq_true rfl) dX6_put_35 ⟨Nat.zero_le _, Nat.zero_le _⟩) hS (fun M_9 H locs hq_10 hW hS => ?_)
      refine lv_aload_n hx hb dX6_put_38 rfl (lv_at hl 1 rfl) ?_
      refine xg_get (κ := 16) (ci := 6) (C := RX6) (T := TX6) (N := 6) hx hb hts inX6 hown hK hW hτ (by decide) rfl rfl 5 (by decide) (hts (.fieldLink RX6 37 "HalfTickets" "pad" "LHalfTickets$Pad;") (List.mem_of_getElem? (i := 1) (by decide +kernel))) (fun _ h9 => h9) rfl dX6_put_39 ?_
      refine xc_i (xr_V (As := []) (rest := []) (κ := 14) ⟨hx, hb, hml, hown, hts⟩ (c_X3_length l O M_9 (b + 825) (O.b6 hτ)) (cwV 0 hts gX6_put_X3_length rfl rfl rfl (by decide +kernel) ⟨Nat.le_of_ble_eq_true rfl, Nat.le_of_ble_eq_true rfl⟩) hK hst hnw hS hW (O.b6 hτ) (by decide) rfl rfl rfl hl.1 rfl (Nat.le_of_ble_eq_true rfl) dX6_put_42 ⟨Nat.zero_le _, Nat.zero_le _⟩) hS (fun r_14 M_12 H locs hq_13 hW hS => ?_)
      obtain ⟨hq_13a, hq_13b⟩ := hq_13
      rw [hq_13b] at hW
      rw [hq_13a]
      exact W.iret (v := (M_9 (b + 825) 1)) hx hb hr (fun t ht hWm => ⟨⟨(M_9 (b + 825) 1), M_9, rfl, ⟨hq_10.1, hq_10⟩, xw_end ht hW⟩, hS.F ht⟩) hS.2.2 dX6_put_45
    · exact absurd (by rw [hM, nI_add]; exact nI_le hq (by omega)) c_8
  · exact absurd c_4 (by decide)

set_option maxHeartbeats 4000000 in
set_option maxRecDepth 100000 in
/-- wipe() -/
theorem cz_wipe (l : Launch) {G : va_G} {g : Nat → ClassId} {t0 τ : Nat → Nat} {A : Nat → Prop} (O : xk_O τ A) (M : xm_T) (b : Nat) (hτ : τ b = 16) (hp : zp b M) : Met l yX6_wipe wsX6_wipe ({ frames := 5, cells := 0, slots := 0, locals := 160 }) (va_Pc [.ref b] (xS_t G g t0 τ A M)) (va_Qi (fun r M' => r = M (b + 825) 1 ∧ M' = xu_p M (b + 825) 1 (nI 0)) (fun M' t => xw_D G g τ M' t.heap) A) 0 0 A := by
  refine Met.ofW (cc := cX6_wipe) (maxL := 2) (ret := (some .int)) (by decide) rfl ?_
  intro p e s m args below meth c s₁ B hml hv
  obtain ⟨rfl, hW, hK, hst, hnw⟩ := hv
  have hx := B.exec
  have hb := B.bytes
  have hr := B.returns
  have hts := atoms_spec (ws := wsX6_wipe) B.pre
  have hown : s.vm.findClass RX6 = some m.cls := findClass_of_methodNamed B.named
  have hlocks := B.notSynchronized
  have hS : va_S A s.heap s.heap [] := va_S.rf
  have inX6 : ∀ w ∈ u_ws RX6 TX6 6, w ∈ wsX6_wipe := by decide +kernel
  have hl := lv_entry ([.ref b]) (n := 2) (Nat.le_of_ble_eq_true rfl)
  rw [lg_entry_eq]
  generalize (lg_sl ([.ref b]) ++ List.replicate (2 - (lg_sl ([.ref b])).length) Slot.unset).toArray = ls at hl ⊢
  have hl : lv_has ls 2 [(0, .ref b)] := hl
  obtain ⟨hpN, ⟨hn, hn6, hnM⟩, LP, hLP, hLM⟩ := id hp
  refine lv_aload_n hx hb dX6_wipe_0 rfl (lv_at hl 0 rfl) ?_
  refine xg_get (κ := 16) (ci := 6) (C := RX6) (T := TX6) (N := 6) hx hb hts inX6 hown hK hW hτ (by decide) rfl rfl 5 (by decide) (hts (.fieldLink RX6 37 "HalfTickets" "pad" "LHalfTickets$Pad;") (List.mem_of_getElem? (i := 1) (by decide +kernel))) (fun _ h9 => h9) rfl dX6_wipe_1 ?_
  refine xc_i (xr_V (As := []) (rest := []) (κ := 14) ⟨hx, hb, hml, hown, hts⟩ (c_X3_length l O M (b + 825) (O.b6 hτ)) (cwV 0 hts gX6_wipe_X3_length rfl rfl rfl (by decide +kernel) ⟨Nat.le_of_ble_eq_true rfl, Nat.le_of_ble_eq_true rfl⟩) hK hst hnw hS hW (O.b6 hτ) (by decide) rfl rfl rfl hl.1 rfl (Nat.le_of_ble_eq_true rfl) dX6_wipe_4 ⟨Nat.zero_le _, Nat.zero_le _⟩) hS (fun r_3 M_1 H locs hq_2 hW hS => ?_)
  obtain ⟨hq_2a, hq_2b⟩ := hq_2
  rw [hq_2b] at hW
  rw [hq_2a]
  refine lv_istore_n (lv' := [(1, .int (M (b + 825) 1)), (0, .ref b)]) hx hb dX6_wipe_7 rfl hl (by decide) rfl (fun ls hl => ?_)
  refine lv_aload_n hx hb dX6_wipe_8 rfl (lv_at hl 1 rfl) ?_
  refine xg_get (κ := 16) (ci := 6) (C := RX6) (T := TX6) (N := 6) hx hb hts inX6 hown hK hW hτ (by decide) rfl rfl 5 (by decide) (hts (.fieldLink RX6 37 "HalfTickets" "pad" "LHalfTickets$Pad;") (List.mem_of_getElem? (i := 1) (by decide +kernel))) (fun _ h9 => h9) rfl dX6_wipe_9 ?_
  refine xc_v (xr_V (As := []) (rest := []) (κ := 14) ⟨hx, hb, hml, hown, hts⟩ (c_X3_clear l O M (b + 825) (O.b6 hτ)) (cwV 0 hts gX6_wipe_X3_clear rfl rfl rfl (by decide +kernel) ⟨Nat.le_of_ble_eq_true rfl, Nat.le_of_ble_eq_true rfl⟩) hK hst hnw hS hW (O.b6 hτ) (by decide) rfl rfl rfl hl.1 rfl (Nat.le_of_ble_eq_true rfl) dX6_wipe_12 ⟨Nat.zero_le _, Nat.zero_le _⟩) hS (fun M_4 H locs hq_5 hW hS => ?_)
  refine lv_iload_n hx hb dX6_wipe_15 rfl (lv_at hl 0 rfl) ?_
  exact W.iret (v := (M (b + 825) 1)) hx hb hr (fun t ht hWm => ⟨⟨(M (b + 825) 1), M_4, rfl, ⟨rfl, hq_5⟩, xw_end ht hW⟩, hS.F ht⟩) hS.2.2 dX6_wipe_16
