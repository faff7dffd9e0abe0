/-! MOVES: joinQueue, sendAway, finishAt -/
theorem zh_p {v : Int32} (h : v = 0) : zm_h v = nI 0 := if_pos h
theorem zh_n {v : Int32} (h : ¬ v = 0) : zm_h v = nI 1 := if_neg h
theorem zk_at.up {M : xm_T} {p t m w x j : Nat} {v : Int32} (h : zk_at M p t m w) (h1 : x ≠ p ∨ (j ≠ 2 ∧ j ≠ 4)) (h2 : x ≠ p + 1) : zk_at (xu_p M x j v) p t m w :=
  ⟨by rw [xu_n _ (by omega)]; exact h.1, by rw [xu_n _ (by omega)]; exact h.2.1, h.2.2.1, h.2.2.2.1, by rw [xu_n _ (by omega)]; exact h.2.2.2.2.1, h.2.2.2.2.2⟩

set_option maxHeartbeats 4000000 in
set_option maxRecDepth 100000 in
/-- joinQueue(k): its window has room -/
theorem c_X2_joinQueue (l : Launch) {G : va_G} {g : Nat → ClassId} {t0 τ : Nat → Nat} {A : Nat → Prop} (O : xk_O τ A) (M : xm_T) (a k : Nat) (hτ : τ a = 1) (hk : k < 24) {tt mm w L : Nat} (hat : zk_at M (a + 2 * k + 34) tt mm w) (hL : L < 24) (hQ : M (a + 5 * w + 5) 1 = nI L) : Met l yX2_joinQueue wsX2_joinQueue ({ frames := 1, cells := 0, slots := 0, locals := 30 }) (va_Pc [.ref a, .ref (a + 2 * k + 34)] (xS_t G g t0 τ A M)) (va_Qv (fun M' => M' = zm_jn a k M) (fun M' t => xw_D G g τ M' t.heap) A) 0 0 A := by
  refine Met.ofW (cc := cX2_joinQueue) (maxL := 3) (ret := none) (by decide) rfl ?_
  intro p e s m args below meth c s₁ B hml hv
  obtain ⟨rfl, hW, hK, hst, hnw⟩ := hv
  have hx := B.exec
  have hb := B.bytes
  have hr := B.returns
  have hts := atoms_spec (ws := wsX2_joinQueue) B.pre
  have hown : s.vm.findClass RX2 = some m.cls := findClass_of_methodNamed B.named
  have hlocks := B.notSynchronized
  have hS : va_S A s.heap s.heap [] := va_S.rf
  have inX4 : ∀ w ∈ u_ws RX4 TX4 12, w ∈ wsX2_joinQueue := by decide +kernel
  have inX5 : ∀ w ∈ u_ws RX5 TX5 7, w ∈ wsX2_joinQueue := by decide +kernel
  have hl := lv_entry ([.ref a, .ref (a + 2 * k + 34)]) (n := 3) (Nat.le_of_ble_eq_true rfl)
  rw [lg_entry_eq]
  generalize (lg_sl ([.ref a, .ref (a + 2 * k + 34)]) ++ List.replicate (3 - (lg_sl ([.ref a, .ref (a + 2 * k + 34)])).length) Slot.unset).toArray = ls at hl ⊢
  have hl : lv_has ls 3 [(0, .ref a), (1, .ref (a + 2 * k + 34))] := hl
  have hw6 : w < 6 := hat.2.2.2.2.2
  refine lv_aload_n hx hb dX2_joinQueue_0 rfl (lv_at hl 1 rfl) ?_
  refine lv_iconst (v := (nI 0)) hx hb dX2_joinQueue_1 (by decide) ?_
  refine xg_put (κ := 8) (ci := 4) (C := RX4) (T := TX4) (N := 12) hx hb hts inX4 tyX4 tyX4_ok nmX4 hown hK O hW hS (O.p hτ hk) (by decide) rfl rfl 3 (by decide) (v := (nI 0)) rfl (xw_okp hW (O.p hτ hk) (by decide)) (hts (.fieldLink RX2 69 "HalfTickets$Person" "where" "I") (List.mem_of_getElem? (i := 1) (by decide +kernel))) (fun _ h9 => h9) rfl (ty := .int) (by decide +kernel) rfl rfl (Nat.le_of_ble_eq_true rfl) dX2_joinQueue_2 (fun H locs hW hS => ?_)
  obtain ⟨M_1, eM_1⟩ : ∃ M9, M9 = xu_p M (a + 2 * k + 34) 3 (nI 0) := ⟨_, rfl⟩
  rw [← eM_1] at hW
  refine lv_aload_n hx hb dX2_joinQueue_5 rfl (lv_at hl 1 rfl) ?_
  refine lv_iconst (v := (nI 0)) hx hb dX2_joinQueue_6 (by decide) ?_
  refine xg_put (κ := 8) (ci := 4) (C := RX4) (T := TX4) (N := 12) hx hb hts inX4 tyX4 tyX4_ok nmX4 hown hK O hW hS (O.p hτ hk) (by decide) rfl rfl 8 (by decide) (v := (nI 0)) rfl (xw_okp hW (O.p hτ hk) (by decide)) (hts (.fieldLink RX2 125 "HalfTickets$Person" "waitsHere" "I") (List.mem_of_getElem? (i := 2) (by decide +kernel))) (fun _ h9 => h9) rfl (ty := .int) (by decide +kernel) rfl rfl (Nat.le_of_ble_eq_true rfl) dX2_joinQueue_7 (fun H locs hW hS => ?_)
  obtain ⟨M_2, eM_2⟩ : ∃ M9, M9 = xu_p M_1 (a + 2 * k + 34) 8 (nI 0) := ⟨_, rfl⟩
  rw [← eM_2] at hW
  have hat2 : zk_at M_2 (a + 2 * k + 34) tt mm w := by subst_vars; exact (hat.up (Or.inr (by decide)) (by omega)).up (Or.inr (by decide)) (by omega)
  have hz3 : M_2 (a + 2 * k + 34) 3 = nI 0 := by rw [eM_2, xu_n _ (Or.inr (by decide)), eM_1, xu_s]
  have hQ2 : M_2 (a + 5 * w + 5) 1 = nI L := by rw [eM_2, xu_n _ (Or.inl (by omega)), eM_1, xu_n _ (Or.inl (by omega))]; exact hQ
  refine lv_aload_n hx hb dX2_joinQueue_10 rfl (lv_at hl 0 rfl) ?_
  refine lv_aload_n hx hb dX2_joinQueue_11 rfl (lv_at hl 1 rfl) ?_
  refine xc_i (xr_V (As := []) (rest := [.ref a]) (κ := 8) ⟨hx, hb, hml, hown, hts⟩ (c_X4_standsAt l O M_2 (a + 2 * k + 34) (O.p hτ hk) hat2.2.1 hat2.1 hat2.2.2.2.1 (by have e := hat2; have := e.2.2.1; have := e.2.2.2.1; omega)) (cwV 0 hts gX2_joinQueue_X4_standsAt rfl rfl rfl (by decide +kernel) ⟨Nat.le_of_ble_eq_true rfl, Nat.le_of_ble_eq_true rfl⟩) hK hst hnw hS hW (O.p hτ hk) (by decide) rfl rfl rfl hl.1 rfl (Nat.le_of_ble_eq_true rfl) dX2_joinQueue_12 ⟨Nat.zero_le _, Nat.zero_le _⟩) hS (fun r_5 M_3 H locs hq_4 hW hS => ?_)
  obtain ⟨hq_4a, hq_4b⟩ := hq_4
  rw [hq_4b] at hW
  rw [hq_4a]
  rw [zs_in hat2 (Or.inl hz3)]
  refine xc_q (xr_V (As := [.int (nI w)]) (rest := []) (κ := 1) ⟨hx, hb, hml, hown, hts⟩ (c_X2_windowAt l O M_2 a hτ (nI w)) (cwV 1 hts gX2_joinQueue_X2_windowAt rfl rfl rfl (by decide +kernel) ⟨Nat.le_of_ble_eq_true rfl, Nat.le_of_ble_eq_true rfl⟩) hK hst hnw hS hW hτ (by decide) rfl rfl rfl hl.1 rfl (Nat.le_of_ble_eq_true rfl) dX2_joinQueue_15 ⟨Nat.zero_le _, Nat.zero_le _⟩) hS (fun r_8 M_6 H locs hq_7 hW hS => ?_)
  obtain ⟨hq_7a, hq_7b⟩ := hq_7
  rw [hq_7b] at hW
  rw [hq_7a]
  rw [xf_win_s a hw6]
  refine W.eq (g2 := F0 m 18 ls [.ref (a + 5 * w + 4)]) rfl ?_
  refine lv_astore_n (lv' := [(2, .ref (a + 5 * w + 4)), (0, .ref a), (1, .ref (a + 2 * k + 34))]) hx hb dX2_joinQueue_18 rfl hl (by decide) rfl (fun ls hl => ?_)
  refine lv_aload_n hx hb dX2_joinQueue_19 rfl (lv_at hl 0 rfl) ?_
  refine lv_ifnull hx hb dX2_joinQueue_20 ?_
  refine lv_aload_n hx hb dX2_joinQueue_23 rfl (lv_at hl 0 rfl) ?_
  refine xg_get (κ := 5) (ci := 5) (C := RX5) (T := TX5) (N := 7) hx hb hts inX5 hown hK hW (O.w hτ hw6) (by decide) rfl rfl 5 (by decide) (hts (.fieldLink RX2 92 "HalfTickets$Window" "queue" "LHalfTickets$Line;") (List.mem_of_getElem? (i := 3) (by decide +kernel))) (fun _ h9 => h9) rfl dX2_joinQueue_24 ?_
  refine lv_aload_n hx hb dX2_joinQueue_27 rfl (lv_at hl 2 rfl) ?_
  refine xg_get (κ := 8) (ci := 4) (C := RX4) (T := TX4) (N := 12) hx hb hts inX4 hown hK hW (O.p hτ hk) (by decide) rfl rfl 0 (by decide) (hts (.fieldLink RX2 96 "HalfTickets$Person" "number" "I") (List.mem_of_getElem? (i := 4) (by decide +kernel))) (fun _ h9 => h9) rfl dX2_joinQueue_28 ?_
  refine xc_v (xr_V (As := [.int (M_2 (a + 2 * k + 34) 0)]) (rest := []) (κ := 6) ⟨hx, hb, hml, hown, hts⟩ (c_X1_append l O M_2 (a + 5 * w + 5) (O.q (O.w hτ hw6)) hL hQ2 (M_2 (a + 2 * k + 34) 0)) (cwV 1 hts gX2_joinQueue_X1_append rfl rfl rfl (by decide +kernel) ⟨Nat.le_of_ble_eq_true rfl, Nat.le_of_ble_eq_true rfl⟩) hK hst hnw hS hW (O.q (O.w hτ hw6)) (by decide) rfl rfl rfl hl.1 rfl (Nat.le_of_ble_eq_true rfl) dX2_joinQueue_31 ⟨Nat.zero_le _, Nat.zero_le _⟩) hS (fun M_9 H locs hq_10 hW hS => ?_)
  exact W.vret hx hb hr (fun t ht hWm => ⟨⟨M_9, rfl, (by rw [hq_10, eM_2, eM_1]; unfold zm_jn; rw [zk_wz hat, if_pos hw6]; simp (disch := omega) only [xu_s, xu_n]), xw_end ht hW⟩, hS.F ht⟩) hS.2.2 dX2_joinQueue_34

set_option maxHeartbeats 4000000 in
set_option maxRecDepth 100000 in
/-- sendAway(k, y) -/
theorem c_X2_sendAway (l : Launch) {G : va_G} {g : Nat → ClassId} {t0 τ : Nat → Nat} {A : Nat → Prop} (O : xk_O τ A) (M : xm_T) (a k : Nat) (hτ : τ a = 1) (hk : k < 24) (y : Int32) {tt mm w L : Nat} (hat : zk_at M (a + 2 * k + 34) tt mm w) (hz : M (a + 2 * k + 34) 3 = nI 0) (hL : L ≤ 24) (hQ : M (a + 5 * w + 5) 1 = nI L) : Met l yX2_sendAway wsX2_sendAway ({ frames := 2, cells := 0, slots := 0, locals := 60 }) (va_Pc [.ref a, .ref (a + 2 * k + 34), .int y] (xS_t G g t0 τ A M)) (va_Qv (fun M' => M' = zm_sa a k y M) (fun M' t => xw_D G g τ M' t.heap) A) 0 0 A := by
  refine Met.ofW (cc := cX2_sendAway) (maxL := 4) (ret := none) (by decide) rfl ?_
  intro p e s m args below meth c s₁ B hml hv
  obtain ⟨rfl, hW, hK, hst, hnw⟩ := hv
  have hx := B.exec
  have hb := B.bytes
  have hr := B.returns
  have hts := atoms_spec (ws := wsX2_sendAway) B.pre
  have hown : s.vm.findClass RX2 = some m.cls := findClass_of_methodNamed B.named
  have hlocks := B.notSynchronized
  have hS : va_S A s.heap s.heap [] := va_S.rf
  have inX2 : ∀ w ∈ u_ws RX2 TX2 7, w ∈ wsX2_sendAway := by decide +kernel
  have inX4 : ∀ w ∈ u_ws RX4 TX4 12, w ∈ wsX2_sendAway := by decide +kernel
  have inX5 : ∀ w ∈ u_ws RX5 TX5 7, w ∈ wsX2_sendAway := by decide +kernel
  have hl := lv_entry ([.ref a, .ref (a + 2 * k + 34), .int y]) (n := 4) (Nat.le_of_ble_eq_true rfl)
  rw [lg_entry_eq]
  generalize (lg_sl ([.ref a, .ref (a + 2 * k + 34), .int y]) ++ List.replicate (4 - (lg_sl ([.ref a, .ref (a + 2 * k + 34), .int y])).length) Slot.unset).toArray = ls at hl ⊢
  have hl : lv_has ls 4 [(0, .ref a), (1, .ref (a + 2 * k + 34)), (2, .int y)] := hl
  have hw6 : w < 6 := hat.2.2.2.2.2
  refine lv_aload_n hx hb dX2_sendAway_0 rfl (lv_at hl 0 rfl) ?_
  refine lv_aload_n hx hb dX2_sendAway_1 rfl (lv_at hl 1 rfl) ?_
  refine xc_i (xr_V (As := []) (rest := [.ref a]) (κ := 8) ⟨hx, hb, hml, hown, hts⟩ (c_X4_standsAt l O M (a + 2 * k + 34) (O.p hτ hk) hat.2.1 hat.1 hat.2.2.2.1 (by have e := hat; have := e.2.2.1; have := e.2.2.2.1; omega)) (cwV 0 hts gX2_sendAway_X4_standsAt rfl rfl rfl (by decide +kernel) ⟨Nat.le_of_ble_eq_true rfl, Nat.le_of_ble_eq_true rfl⟩) hK hst hnw hS hW (O.p hτ hk) (by decide) rfl rfl rfl hl.1 rfl (Nat.le_of_ble_eq_true rfl) dX2_sendAway_2 ⟨Nat.zero_le _, Nat.zero_le _⟩) hS (fun r_3 M_1 H locs hq_2 hW hS => ?_)
  obtain ⟨hq_2a, hq_2b⟩ := hq_2
  rw [hq_2b] at hW
  rw [hq_2a]
  rw [zs_in hat (Or.inl hz)]
  refine xc_q (xr_V (As := [.int (nI w)]) (rest := []) (κ := 1) ⟨hx, hb, hml, hown, hts⟩ (c_X2_windowAt l O M a hτ (nI w)) (cwV 1 hts gX2_sendAway_X2_windowAt rfl rfl rfl (by decide +kernel) ⟨Nat.le_of_ble_eq_true rfl, Nat.le_of_ble_eq_true rfl⟩) hK hst hnw hS hW hτ (by decide) rfl rfl rfl hl.1 rfl (Nat.le_of_ble_eq_true rfl) dX2_sendAway_5 ⟨Nat.zero_le _, Nat.zero_le _⟩) hS (fun r_6 M_4 H locs hq_5 hW hS => ?_)
  obtain ⟨hq_5a, hq_5b⟩ := hq_5
  rw [hq_5b] at hW
  rw [hq_5a]
  rw [xf_win_s a hw6]
  refine W.eq (g2 := F0 m 8 ls [.ref (a + 5 * w + 4)]) rfl ?_
  refine lv_astore_n (lv' := [(3, .ref (a + 5 * w + 4)), (0, .ref a), (1, .ref (a + 2 * k + 34)), (2, .int y)]) hx hb dX2_sendAway_8 rfl hl (by decide) rfl (fun ls hl => ?_)
  refine lv_aload_n hx hb dX2_sendAway_9 rfl (lv_at hl 0 rfl) ?_
  refine lv_ifnull hx hb dX2_sendAway_10 ?_
  refine lv_aload_n hx hb dX2_sendAway_13 rfl (lv_at hl 0 rfl) ?_
  refine xg_get (κ := 5) (ci := 5) (C := RX5) (T := TX5) (N := 7) hx hb hts inX5 hown hK hW (O.w hτ hw6) (by decide) rfl rfl 5 (by decide) (hts (.fieldLink RX2 92 "HalfTickets$Window" "queue" "LHalfTickets$Line;") (List.mem_of_getElem? (i := 1) (by decide +kernel))) (fun _ h9 => h9) rfl dX2_sendAway_14 ?_
  refine lv_aload_n hx hb dX2_sendAway_17 rfl (lv_at hl 2 rfl) ?_
  refine xg_get (κ := 8) (ci := 4) (C := RX4) (T := TX4) (N := 12) hx hb hts inX4 hown hK hW (O.p hτ hk) (by decide) rfl rfl 0 (by decide) (hts (.fieldLink RX2 96 "HalfTickets$Person" "number" "I") (List.mem_of_getElem? (i := 2) (by decide +kernel))) (fun _ h9 => h9) rfl dX2_sendAway_18 ?_
  refine xc_v (xr_V (As := [.int (M (a + 2 * k + 34) 0)]) (rest := []) (κ := 6) ⟨hx, hb, hml, hown, hts⟩ (c_X1_remove l O M (a + 5 * w + 5) (O.q (O.w hτ hw6)) hL hQ (M (a + 2 * k + 34) 0)) (cwV 1 hts gX2_sendAway_X1_remove rfl rfl rfl (by decide +kernel) ⟨Nat.le_of_ble_eq_true rfl, Nat.le_of_ble_eq_true rfl⟩) hK hst hnw hS hW (O.q (O.w hτ hw6)) (by decide) rfl rfl rfl hl.1 rfl (Nat.le_of_ble_eq_true rfl) dX2_sendAway_21 ⟨Nat.zero_le _, Nat.zero_le _⟩) hS (fun M_7 H locs hq_8 hW hS => ?_)
  have ho : ∀ x, x ≠ a + 5 * w + 5 → x ≠ a + 5 * w + 6 → M_7 x = M x := fun x h1 h2 => by rw [hq_8]; exact zl_rv_o h1 h2
  refine lv_aload_n hx hb dX2_sendAway_24 rfl (lv_at hl 1 rfl) ?_
  refine lv_dup hx hb dX2_sendAway_25 rfl ?_
  refine xg_get (κ := 1) (ci := 2) (C := RX2) (T := TX2) (N := 7) hx hb hts inX2 hown hK hW hτ (by decide) rfl rfl 5 (by decide) (hts (.fieldLink RX2 59 "HalfTickets$Ministry" "lost" "I") (List.mem_of_getElem? (i := 3) (by decide +kernel))) (fun _ h9 => h9) rfl dX2_sendAway_26 ?_
  refine lv_aload_n hx hb dX2_sendAway_29 rfl (lv_at hl 2 rfl) ?_
  refine xg_get (κ := 8) (ci := 4) (C := RX4) (T := TX4) (N := 12) hx hb hts inX4 hown hK hW (O.p hτ hk) (by decide) rfl rfl 5 (by decide) (hts (.fieldLink RX2 75 "HalfTickets$Person" "hasHalf" "Z") (List.mem_of_getElem? (i := 4) (by decide +kernel))) (fun _ h9 => h9) rfl dX2_sendAway_30 ?_
  refine lv_if_eq (tgt := 40) hx hb dX2_sendAway_33 (by decide) (fun c_10 => ?_) (fun c_10 => ?_)
  · rw [ho _ (by omega) (by omega)] at c_10
    refine lv_iconst (v := (nI 0)) hx hb dX2_sendAway_40 (by decide) ?_
    refine lv_iadd hx hb dX2_sendAway_41 ?_
    refine xg_put (κ := 1) (ci := 2) (C := RX2) (T := TX2) (N := 7) hx hb hts inX2 tyX2 tyX2_ok nmX2 hown hK O hW hS hτ (by decide) rfl rfl 5 (by decide) (v := ((M_7 a 5) + (nI 0))) rfl trivial (hts (.fieldLink RX2 59 "HalfTickets$Ministry" "lost" "I") (List.mem_of_getElem? (i := 3) (by decide +kernel))) (fun _ h9 => h9) rfl (ty := .int) (by decide +kernel) rfl rfl (Nat.le_of_ble_eq_true rfl) dX2_sendAway_42 (fun H locs hW hS => ?_)
    obtain ⟨M_11, eM_11⟩ : ∃ M9, M9 = xu_p M_7 a 5 ((M_7 a 5) + (nI 0)) := ⟨_, rfl⟩
    rw [← eM_11] at hW
    refine lv_aload_n hx hb dX2_sendAway_45 rfl (lv_at hl 2 rfl) ?_
    refine lv_iconst (v := (nI 3)) hx hb dX2_sendAway_46 (by decide) ?_
    refine lv_iload_n hx hb dX2_sendAway_47 rfl (lv_at hl 3 rfl) ?_
    refine xc_v (xr_V (As := [.int (nI 3), .int y]) (rest := []) (κ := 8) ⟨hx, hb, hml, hown, hts⟩ (c_X4_goAs l O M_11 (a + 2 * k + 34) (O.p hτ hk) (nI 3) y) (cwV 2 hts gX2_sendAway_X4_goAs rfl rfl rfl (by decide +kernel) ⟨Nat.le_of_ble_eq_true rfl, Nat.le_of_ble_eq_true rfl⟩) hK hst hnw hS hW (O.p hτ hk) (by decide) rfl rfl rfl hl.1 rfl (Nat.le_of_ble_eq_true rfl) dX2_sendAway_48 ⟨Nat.zero_le _, Nat.zero_le _⟩) hS (fun M_12 H locs hq_13 hW hS => ?_)
    exact W.vret hx hb hr (fun t ht hWm => ⟨⟨M_12, rfl, (by rw [hq_13, eM_11, ho a (by omega) (by omega), hq_8]; unfold zm_sa; rw [zk_wz hat, if_pos hw6, zh_p c_10]; rfl), xw_end ht hW⟩, hS.F ht⟩) hS.2.2 dX2_sendAway_51
  · rw [ho _ (by omega) (by omega)] at c_10
    refine lv_iconst (v := (nI 1)) hx hb dX2_sendAway_36 (by decide) ?_
    refine lv_goto (tgt := 41) hx hb dX2_sendAway_37 (by decide) ?_
    refine lv_iadd hx hb dX2_sendAway_41 ?_
    refine xg_put (κ := 1) (ci := 2) (C := RX2) (T := TX2) (N := 7) hx hb hts inX2 tyX2 tyX2_ok nmX2 hown hK O hW hS hτ (by decide) rfl rfl 5 (by decide) (v := ((M_7 a 5) + (nI 1))) rfl trivial (hts (.fieldLink RX2 59 "HalfTickets$Ministry" "lost" "I") (List.mem_of_getElem? (i := 3) (by decide +kernel))) (fun _ h9 => h9) rfl (ty := .int) (by decide +kernel) rfl rfl (Nat.le_of_ble_eq_true rfl) dX2_sendAway_42 (fun H locs hW hS => ?_)
    obtain ⟨M_15, eM_15⟩ : ∃ M9, M9 = xu_p M_7 a 5 ((M_7 a 5) + (nI 1)) := ⟨_, rfl⟩
    rw [← eM_15] at hW
    refine lv_aload_n hx hb dX2_sendAway_45 rfl (lv_at hl 2 rfl) ?_
    refine lv_iconst (v := (nI 3)) hx hb dX2_sendAway_46 (by decide) ?_
    refine lv_iload_n hx hb dX2_sendAway_47 rfl (lv_at hl 3 rfl) ?_
    refine xc_v (xr_V (As := [.int (nI 3), .int y]) (rest := []) (κ := 8) ⟨hx, hb, hml, hown, hts⟩ (c_X4_goAs l O M_15 (a + 2 * k + 34) (O.p hτ hk) (nI 3) y) (cwV 2 hts gX2_sendAway_X4_goAs rfl rfl rfl (by decide +kernel) ⟨Nat.le_of_ble_eq_true rfl, Nat.le_of_ble_eq_true rfl⟩) hK hst hnw hS hW (O.p hτ hk) (by decide) rfl rfl rfl hl.1 rfl (Nat.le_of_ble_eq_true rfl) dX2_sendAway_48 ⟨Nat.zero_le _, Nat.zero_le _⟩) hS (fun M_16 H locs hq_17 hW hS => ?_)
    exact W.vret hx hb hr (fun t ht hWm => ⟨⟨M_16, rfl, (by rw [hq_17, eM_15, ho a (by omega) (by omega), hq_8]; unfold zm_sa; rw [zk_wz hat, if_pos hw6, zh_n c_10]; rfl), xw_end ht hW⟩, hS.F ht⟩) hS.2.2 dX2_sendAway_51

set_option maxHeartbeats 4000000 in
set_option maxRecDepth 100000 in
/-- finishAt(w, k) -/
theorem c_X2_finishAt (l : Launch) {G : va_G} {g : Nat → ClassId} {t0 τ : Nat → Nat} {A : Nat → Prop} (O : xk_O τ A) (M : xm_T) (a w k : Nat) (hτ : τ a = 1) (hw : w < 6) (hk : k < 24) {tt mm : Nat} (hmm : M (a + 2 * k + 34) 2 = nI mm) (htt : M (a + 2 * k + 34) 4 = nI tt) (htm : tt < mm) (hm8 : mm ≤ 8) (he : ∀ j, j < mm → ∃ u, u < 6 ∧ M (a + 2 * k + 35) j = nI u) (hQ : ∀ u, u < 6 → ∃ L, L < 24 ∧ M (a + 5 * u + 5) 1 = nI L) : Met l yX2_finishAt wsX2_finishAt ({ frames := 2, cells := 0, slots := 0, locals := 60 }) (va_Pc [.ref a, .ref (a + 5 * w + 4), .ref (a + 2 * k + 34)] (xS_t G g t0 τ A M)) (va_Qv (fun M' => M' = zm_fi a w k M) (fun M' t => xw_D G g τ M' t.heap) A) 0 0 A := by
  refine Met.ofW (cc := cX2_finishAt) (maxL := 3) (ret := none) (by decide) rfl ?_
  intro p e s m args below meth c s₁ B hml hv
  obtain ⟨rfl, hW, hK, hst, hnw⟩ := hv
  have hx := B.exec
  have hb := B.bytes
  have hr := B.returns
  have hts := atoms_spec (ws := wsX2_finishAt) B.pre
  have hown : s.vm.findClass RX2 = some m.cls := findClass_of_methodNamed B.named
  have hlocks := B.notSynchronized
  have hS : va_S A s.heap s.heap [] := va_S.rf
  have inX2 : ∀ w ∈ u_ws RX2 TX2 7, w ∈ wsX2_finishAt := by decide +kernel
  have inX4 : ∀ w ∈ u_ws RX4 TX4 12, w ∈ wsX2_finishAt := by decide +kernel
  have inX5 : ∀ w ∈ u_ws RX5 TX5 7, w ∈ wsX2_finishAt := by decide +kernel
  have hl := lv_entry ([.ref a, .ref (a + 5 * w + 4), .ref (a + 2 * k + 34)]) (n := 3) (Nat.le_of_ble_eq_true rfl)
  rw [lg_entry_eq]
  generalize (lg_sl ([.ref a, .ref (a + 5 * w + 4), .ref (a + 2 * k + 34)]) ++ List.replicate (3 - (lg_sl ([.ref a, .ref (a + 5 * w + 4), .ref (a + 2 * k + 34)])).length) Slot.unset).toArray = ls at hl ⊢
  have hl : lv_has ls 3 [(0, .ref a), (1, .ref (a + 5 * w + 4)), (2, .ref (a + 2 * k + 34))] := hl
  refine lv_aload_n hx hb dX2_finishAt_0 rfl (lv_at hl 1 rfl) ?_
  refine lv_dup hx hb dX2_finishAt_1 rfl ?_
  refine xg_get (κ := 5) (ci := 5) (C := RX5) (T := TX5) (N := 7) hx hb hts inX5 hown hK hW (O.w hτ hw) (by decide) rfl rfl 3 (by decide) (hts (.fieldLink RX2 170 "HalfTickets$Window" "servings" "I") (List.mem_of_getElem? (i := 1) (by decide +kernel))) (fun _ h9 => h9) rfl dX2_finishAt_2 ?_
  refine lv_iconst (v := (nI 1)) hx hb dX2_finishAt_5 (by decide) ?_
  refine lv_iadd hx hb dX2_finishAt_6 ?_
  refine xg_put (κ := 5) (ci := 5) (C := RX5) (T := TX5) (N := 7) hx hb hts inX5 tyX5 tyX5_ok nmX5 hown hK O hW hS (O.w hτ hw) (by decide) rfl rfl 3 (by decide) (v := ((M (a + 5 * w + 4) 3) + (nI 1))) rfl (xw_okp hW (O.w hτ hw) (by decide)) (hts (.fieldLink RX2 170 "HalfTickets$Window" "servings" "I") (List.mem_of_getElem? (i := 1) (by decide +kernel))) (fun _ h9 => h9) rfl (ty := .int) (by decide +kernel) rfl rfl (Nat.le_of_ble_eq_true rfl) dX2_finishAt_7 (fun H locs hW hS => ?_)
  obtain ⟨M_1, eM_1⟩ : ∃ M9, M9 = xu_p M (a + 5 * w + 4) 3 ((M (a + 5 * w + 4) 3) + (nI 1)) := ⟨_, rfl⟩
  rw [← eM_1] at hW
  refine lv_aload_n hx hb dX2_finishAt_10 rfl (lv_at hl 2 rfl) ?_
  refine xg_get (κ := 8) (ci := 4) (C := RX4) (T := TX4) (N := 12) hx hb hts inX4 hown hK hW (O.p hτ hk) (by decide) rfl rfl 4 (by decide) (hts (.fieldLink RX2 173 "HalfTickets$Person" "through" "I") (List.mem_of_getElem? (i := 2) (by decide +kernel))) (fun _ h9 => h9) rfl dX2_finishAt_11 ?_
  refine lv_iconst (v := (nI 1)) hx hb dX2_finishAt_14 (by decide) ?_
  refine lv_iadd hx hb dX2_finishAt_15 ?_
  refine lv_aload_n hx hb dX2_finishAt_16 rfl (lv_at hl 2 rfl) ?_
  refine xg_get (κ := 8) (ci := 4) (C := RX4) (T := TX4) (N := 12) hx hb hts inX4 hown hK hW (O.p hτ hk) (by decide) rfl rfl 2 (by decide) (hts (.fieldLink RX2 176 "HalfTickets$Person" "errandLength" "I") (List.mem_of_getElem? (i := 3) (by decide +kernel))) (fun _ h9 => h9) rfl dX2_finishAt_17 ?_
  refine lv_icmp_lt (tgt := 66) hx hb dX2_finishAt_20 (by decide) (fun c_2 => ?_) (fun c_2 => ?_)
  · simp (disch := omega) only [eM_1, xu_s, xu_n] at c_2
    refine lv_aload_n hx hb dX2_finishAt_66 rfl (lv_at hl 1 rfl) ?_
    refine xg_get (κ := 5) (ci := 5) (C := RX5) (T := TX5) (N := 7) hx hb hts inX5 hown hK hW (O.w hτ hw) (by decide) rfl rfl 2 (by decide) (hts (.fieldLink RX2 72 "HalfTickets$Window" "halves" "I") (List.mem_of_getElem? (i := 4) (by decide +kernel))) (fun _ h9 => h9) rfl dX2_finishAt_67 ?_
    refine lv_if_le (tgt := 99) hx hb dX2_finishAt_70 (by decide) (fun c_3 => ?_) (fun c_3 => ?_)
    · simp (disch := omega) only [eM_1, xu_s, xu_n] at c_3
      refine lv_aload_n hx hb dX2_finishAt_99 rfl (lv_at hl 2 rfl) ?_
      refine xg_get (κ := 8) (ci := 4) (C := RX4) (T := TX4) (N := 12) hx hb hts inX4 hown hK hW (O.p hτ hk) (by decide) rfl rfl 5 (by decide) (hts (.fieldLink RX2 75 "HalfTickets$Person" "hasHalf" "Z") (List.mem_of_getElem? (i := 5) (by decide +kernel))) (fun _ h9 => h9) rfl dX2_finishAt_100 ?_
      refine lv_if_eq (tgt := 119) hx hb dX2_finishAt_103 (by decide) (fun c_4 => ?_) (fun c_4 => ?_)
      · simp (disch := omega) only [eM_1, xu_s, xu_n] at c_4
        refine lv_aload_n hx hb dX2_finishAt_119 rfl (lv_at hl 2 rfl) ?_
        refine lv_dup hx hb dX2_finishAt_120 rfl ?_
        refine xg_get (κ := 8) (ci := 4) (C := RX4) (T := TX4) (N := 12) hx hb hts inX4 hown hK hW (O.p hτ hk) (by decide) rfl rfl 9 (by decide) (hts (.fieldLink RX2 81 "HalfTickets$Person" "sentBack" "I") (List.mem_of_getElem? (i := 7) (by decide +kernel))) (fun _ h9 => h9) rfl dX2_finishAt_121 ?_
        refine lv_iconst (v := (nI 1)) hx hb dX2_finishAt_124 (by decide) ?_
        refine lv_iadd hx hb dX2_finishAt_125 ?_
        refine xg_put (κ := 8) (ci := 4) (C := RX4) (T := TX4) (N := 12) hx hb hts inX4 tyX4 tyX4_ok nmX4 hown hK O hW hS (O.p hτ hk) (by decide) rfl rfl 9 (by decide) (v := ((M_1 (a + 2 * k + 34) 9) + (nI 1))) rfl (xw_okp hW (O.p hτ hk) (by decide)) (hts (.fieldLink RX2 81 "HalfTickets$Person" "sentBack" "I") (List.mem_of_getElem? (i := 7) (by decide +kernel))) (fun _ h9 => h9) rfl (ty := .int) (by decide +kernel) rfl rfl (Nat.le_of_ble_eq_true rfl) dX2_finishAt_126 (fun H locs hW hS => ?_)
        obtain ⟨M_5, eM_5⟩ : ∃ M9, M9 = xu_p M_1 (a + 2 * k + 34) 9 ((M_1 (a + 2 * k + 34) 9) + (nI 1)) := ⟨_, rfl⟩
        rw [← eM_5] at hW
        refine lv_aload_n hx hb dX2_finishAt_129 rfl (lv_at hl 1 rfl) ?_
        refine lv_dup hx hb dX2_finishAt_130 rfl ?_
        refine xg_get (κ := 5) (ci := 5) (C := RX5) (T := TX5) (N := 7) hx hb hts inX5 hown hK hW (O.w hτ hw) (by decide) rfl rfl 4 (by decide) (hts (.fieldLink RX2 179 "HalfTickets$Window" "sentBack" "I") (List.mem_of_getElem? (i := 8) (by decide +kernel))) (fun _ h9 => h9) rfl dX2_finishAt_131 ?_
        refine lv_iconst (v := (nI 1)) hx hb dX2_finishAt_134 (by decide) ?_
        refine lv_iadd hx hb dX2_finishAt_135 ?_
        refine xg_put (κ := 5) (ci := 5) (C := RX5) (T := TX5) (N := 7) hx hb hts inX5 tyX5 tyX5_ok nmX5 hown hK O hW hS (O.w hτ hw) (by decide) rfl rfl 4 (by decide) (v := ((M_5 (a + 5 * w + 4) 4) + (nI 1))) rfl (xw_okp hW (O.w hτ hw) (by decide)) (hts (.fieldLink RX2 179 "HalfTickets$Window" "sentBack" "I") (List.mem_of_getElem? (i := 8) (by decide +kernel))) (fun _ h9 => h9) rfl (ty := .int) (by decide +kernel) rfl rfl (Nat.le_of_ble_eq_true rfl) dX2_finishAt_136 (fun H locs hW hS => ?_)
        obtain ⟨M_6, eM_6⟩ : ∃ M9, M9 = xu_p M_5 (a + 5 * w + 4) 4 ((M_5 (a + 5 * w + 4) 4) + (nI 1)) := ⟨_, rfl⟩
        rw [← eM_6] at hW
        refine lv_aload_n hx hb dX2_finishAt_139 rfl (lv_at hl 2 rfl) ?_
        refine lv_iconst (v := (nI 1)) hx hb dX2_finishAt_140 (by decide) ?_
        refine xg_put (κ := 8) (ci := 4) (C := RX4) (T := TX4) (N := 12) hx hb hts inX4 tyX4 tyX4_ok nmX4 hown hK O hW hS (O.p hτ hk) (by decide) rfl rfl 11 (by decide) (v := (nI 1)) rfl ⟨(xw_okp hW (O.p hτ hk) (by decide)).1, xb_1⟩ (hts (.fieldLink RX2 138 "HalfTickets$Person" "cameInThisTick" "Z") (List.mem_of_getElem? (i := 9) (by decide +kernel))) (fun _ h9 => h9) rfl (ty := .boolean) (by decide +kernel) (xb_nar xb_1) (xb_fit xb_1) (Nat.le_of_ble_eq_true rfl) dX2_finishAt_141 (fun H locs hW hS => ?_)
        obtain ⟨M_7, eM_7⟩ : ∃ M9, M9 = xu_p M_6 (a + 2 * k + 34) 11 (nI 1) := ⟨_, rfl⟩
        rw [← eM_7] at hW
        refine lv_aload_n hx hb dX2_finishAt_144 rfl (lv_at hl 0 rfl) ?_
        refine lv_aload_n hx hb dX2_finishAt_145 rfl (lv_at hl 2 rfl) ?_
        obtain ⟨u, hu, hut⟩ := he tt htm
        obtain ⟨L, hL, hQL⟩ := hQ u hu
        have hat : zk_at M_7 (a + 2 * k + 34) tt mm u := ⟨by simp (disch := omega) only [eM_7, eM_6, eM_5, eM_1, xu_s, xu_n]; exact hmm, (by simp (disch := omega) only [eM_7, eM_6, eM_5, eM_1, xu_s, xu_n]; exact htt), htm, hm8, by simp (disch := omega) only [eM_7, eM_6, eM_5, eM_1, xu_s, xu_n]; exact hut, hu⟩
        have hQ5 : M_7 (a + 5 * u + 5) 1 = nI L := by simp (disch := omega) only [eM_7, eM_6, eM_5, eM_1, xu_s, xu_n]; exact hQL
        refine xc_v (xr_V (As := [.ref (a + 2 * k + 34)]) (rest := []) (κ := 1) ⟨hx, hb, hml, hown, hts⟩ (c_X2_joinQueue l O M_7 a k hτ hk hat hL hQ5) (cwV 1 hts gX2_finishAt_X2_joinQueue rfl rfl rfl (by decide +kernel) ⟨Nat.le_of_ble_eq_true rfl, Nat.le_of_ble_eq_true rfl⟩) hK hst hnw hS hW hτ (by decide) rfl rfl rfl hl.1 rfl (Nat.le_of_ble_eq_true rfl) dX2_finishAt_146 ⟨Nat.zero_le _, Nat.zero_le _⟩) hS (fun M_8 H locs hq_9 hW hS => ?_)
        exact W.vret hx hb hr (fun t ht hWm => ⟨⟨M_8, rfl, (by rw [hq_9]; simp (disch := omega) only [eM_7, eM_6, eM_5, eM_1, xu_s, xu_n]; unfold zm_fi zm_f3; rw [if_pos c_2, if_pos c_3, if_pos c_4]), xw_end ht hW⟩, hS.F ht⟩) hS.2.2 dX2_finishAt_149
      · simp (disch := omega) only [eM_1, xu_s, xu_n] at c_4
        refine lv_aload_n hx hb dX2_finishAt_106 rfl (lv_at hl 2 rfl) ?_
        refine lv_dup hx hb dX2_finishAt_107 rfl ?_
        refine xg_get (κ := 8) (ci := 4) (C := RX4) (T := TX4) (N := 12) hx hb hts inX4 hown hK hW (O.p hτ hk) (by decide) rfl rfl 4 (by decide) (hts (.fieldLink RX2 173 "HalfTickets$Person" "through" "I") (List.mem_of_getElem? (i := 2) (by decide +kernel))) (fun _ h9 => h9) rfl dX2_finishAt_108 ?_
        refine lv_iconst (v := (nI 1)) hx hb dX2_finishAt_111 (by decide) ?_
        refine lv_iadd hx hb dX2_finishAt_112 ?_
        refine xg_put (κ := 8) (ci := 4) (C := RX4) (T := TX4) (N := 12) hx hb hts inX4 tyX4 tyX4_ok nmX4 hown hK O hW hS (O.p hτ hk) (by decide) rfl rfl 4 (by decide) (v := ((M_1 (a + 2 * k + 34) 4) + (nI 1))) rfl (xw_okp hW (O.p hτ hk) (by decide)) (hts (.fieldLink RX2 173 "HalfTickets$Person" "through" "I") (List.mem_of_getElem? (i := 2) (by decide +kernel))) (fun _ h9 => h9) rfl (ty := .int) (by decide +kernel) rfl rfl (Nat.le_of_ble_eq_true rfl) dX2_finishAt_113 (fun H locs hW hS => ?_)
        obtain ⟨M_11, eM_11⟩ : ∃ M9, M9 = xu_p M_1 (a + 2 * k + 34) 4 ((M_1 (a + 2 * k + 34) 4) + (nI 1)) := ⟨_, rfl⟩
        rw [← eM_11] at hW
        refine lv_goto (tgt := 139) hx hb dX2_finishAt_116 (by decide) ?_
        refine lv_aload_n hx hb dX2_finishAt_139 rfl (lv_at hl 2 rfl) ?_
        refine lv_iconst (v := (nI 1)) hx hb dX2_finishAt_140 (by decide) ?_
        refine xg_put (κ := 8) (ci := 4) (C := RX4) (T := TX4) (N := 12) hx hb hts inX4 tyX4 tyX4_ok nmX4 hown hK O hW hS (O.p hτ hk) (by decide) rfl rfl 11 (by decide) (v := (nI 1)) rfl ⟨(xw_okp hW (O.p hτ hk) (by decide)).1, xb_1⟩ (hts (.fieldLink RX2 138 "HalfTickets$Person" "cameInThisTick" "Z") (List.mem_of_getElem? (i := 9) (by decide +kernel))) (fun _ h9 => h9) rfl (ty := .boolean) (by decide +kernel) (xb_nar xb_1) (xb_fit xb_1) (Nat.le_of_ble_eq_true rfl) dX2_finishAt_141 (fun H locs hW hS => ?_)
        obtain ⟨M_12, eM_12⟩ : ∃ M9, M9 = xu_p M_11 (a + 2 * k + 34) 11 (nI 1) := ⟨_, rfl⟩
        rw [← eM_12] at hW
        refine lv_aload_n hx hb dX2_finishAt_144 rfl (lv_at hl 0 rfl) ?_
        refine lv_aload_n hx hb dX2_finishAt_145 rfl (lv_at hl 2 rfl) ?_
        have ht1 : tt + 1 < mm := by have e := c_2; rw [htt, hmm, show nI tt + nI 1 = nI (tt + 1) from nI_add tt 1] at e; exact (nI_ltI (by omega) (by omega)).mp e
        obtain ⟨u, hu, hut⟩ := he (tt + 1) ht1
        obtain ⟨L, hL, hQL⟩ := hQ u hu
        have hat : zk_at M_12 (a + 2 * k + 34) (tt + 1) mm u := ⟨by simp (disch := omega) only [eM_12, eM_11, eM_1, xu_s, xu_n]; exact hmm, (by simp (disch := omega) only [eM_12, eM_11, eM_1, xu_s, xu_n]; rw [htt]; exact nI_add tt 1), ht1, hm8, by simp (disch := omega) only [eM_12, eM_11, eM_1, xu_s, xu_n]; exact hut, hu⟩
        have hQ5 : M_12 (a + 5 * u + 5) 1 = nI L := by simp (disch := omega) only [eM_12, eM_11, eM_1, xu_s, xu_n]; exact hQL
        refine xc_v (xr_V (As := [.ref (a + 2 * k + 34)]) (rest := []) (κ := 1) ⟨hx, hb, hml, hown, hts⟩ (c_X2_joinQueue l O M_12 a k hτ hk hat hL hQ5) (cwV 1 hts gX2_finishAt_X2_joinQueue rfl rfl rfl (by decide +kernel) ⟨Nat.le_of_ble_eq_true rfl, Nat.le_of_ble_eq_true rfl⟩) hK hst hnw hS hW hτ (by decide) rfl rfl rfl hl.1 rfl (Nat.le_of_ble_eq_true rfl) dX2_finishAt_146 ⟨Nat.zero_le _, Nat.zero_le _⟩) hS (fun M_13 H locs hq_14 hW hS => ?_)
        exact W.vret hx hb hr (fun t ht hWm => ⟨⟨M_13, rfl, (by rw [hq_14]; simp (disch := omega) only [eM_12, eM_11, eM_1, xu_s, xu_n]; unfold zm_fi zm_f2; rw [if_pos c_2, if_pos c_3, if_neg c_4]), xw_end ht hW⟩, hS.F ht⟩) hS.2.2 dX2_finishAt_149
    · simp (disch := omega) only [eM_1, xu_s, xu_n] at c_3
      refine lv_aload_n hx hb dX2_finishAt_73 rfl (lv_at hl 1 rfl) ?_
      refine lv_dup hx hb dX2_finishAt_74 rfl ?_
      refine xg_get (κ := 5) (ci := 5) (C := RX5) (T := TX5) (N := 7) hx hb hts inX5 hown hK hW (O.w hτ hw) (by decide) rfl rfl 2 (by decide) (hts (.fieldLink RX2 72 "HalfTickets$Window" "halves" "I") (List.mem_of_getElem? (i := 4) (by decide +kernel))) (fun _ h9 => h9) rfl dX2_finishAt_75 ?_
      refine lv_aload_n hx hb dX2_finishAt_78 rfl (lv_at hl 2 rfl) ?_
      refine xg_get (κ := 8) (ci := 4) (C := RX4) (T := TX4) (N := 12) hx hb hts inX4 hown hK hW (O.p hτ hk) (by decide) rfl rfl 5 (by decide) (hts (.fieldLink RX2 75 "HalfTickets$Person" "hasHalf" "Z") (List.mem_of_getElem? (i := 5) (by decide +kernel))) (fun _ h9 => h9) rfl dX2_finishAt_79 ?_
      refine lv_if_eq (tgt := 89) hx hb dX2_finishAt_82 (by decide) (fun c_16 => ?_) (fun c_16 => ?_)
      · simp (disch := omega) only [eM_1, xu_s, xu_n] at c_16
        refine lv_iconst (v := (-1)) hx hb dX2_finishAt_89 (by decide) ?_
        refine lv_iadd hx hb dX2_finishAt_90 ?_
        refine xg_put (κ := 5) (ci := 5) (C := RX5) (T := TX5) (N := 7) hx hb hts inX5 tyX5 tyX5_ok nmX5 hown hK O hW hS (O.w hτ hw) (by decide) rfl rfl 2 (by decide) (v := ((M_1 (a + 5 * w + 4) 2) + (-1))) rfl (xw_okp hW (O.w hτ hw) (by decide)) (hts (.fieldLink RX2 72 "HalfTickets$Window" "halves" "I") (List.mem_of_getElem? (i := 4) (by decide +kernel))) (fun _ h9 => h9) rfl (ty := .int) (by decide +kernel) rfl rfl (Nat.le_of_ble_eq_true rfl) dX2_finishAt_91 (fun H locs hW hS => ?_)
        obtain ⟨M_17, eM_17⟩ : ∃ M9, M9 = xu_p M_1 (a + 5 * w + 4) 2 ((M_1 (a + 5 * w + 4) 2) + (-1)) := ⟨_, rfl⟩
        rw [← eM_17] at hW
        refine lv_aload_n hx hb dX2_finishAt_94 rfl (lv_at hl 2 rfl) ?_
        refine lv_iconst (v := (nI 1)) hx hb dX2_finishAt_95 (by decide) ?_
        refine xg_put (κ := 8) (ci := 4) (C := RX4) (T := TX4) (N := 12) hx hb hts inX4 tyX4 tyX4_ok nmX4 hown hK O hW hS (O.p hτ hk) (by decide) rfl rfl 5 (by decide) (v := (nI 1)) rfl ⟨xb_1, (xw_okp hW (O.p hτ hk) (by decide)).2⟩ (hts (.fieldLink RX2 75 "HalfTickets$Person" "hasHalf" "Z") (List.mem_of_getElem? (i := 5) (by decide +kernel))) (fun _ h9 => h9) rfl (ty := .boolean) (by decide +kernel) (xb_nar xb_1) (xb_fit xb_1) (Nat.le_of_ble_eq_true rfl) dX2_finishAt_96 (fun H locs hW hS => ?_)
        obtain ⟨M_18, eM_18⟩ : ∃ M9, M9 = xu_p M_17 (a + 2 * k + 34) 5 (nI 1) := ⟨_, rfl⟩
        rw [← eM_18] at hW
        refine lv_aload_n hx hb dX2_finishAt_99 rfl (lv_at hl 2 rfl) ?_
        refine xg_get (κ := 8) (ci := 4) (C := RX4) (T := TX4) (N := 12) hx hb hts inX4 hown hK hW (O.p hτ hk) (by decide) rfl rfl 5 (by decide) (hts (.fieldLink RX2 75 "HalfTickets$Person" "hasHalf" "Z") (List.mem_of_getElem? (i := 5) (by decide +kernel))) (fun _ h9 => h9) rfl dX2_finishAt_100 ?_
        refine lv_if_eq (tgt := 119) hx hb dX2_finishAt_103 (by decide) (fun c_19 => ?_) (fun c_19 => ?_)
        · rw [eM_18, xu_s] at c_19
          exact absurd c_19 (by decide)
        · refine lv_aload_n hx hb dX2_finishAt_106 rfl (lv_at hl 2 rfl) ?_
          refine lv_dup hx hb dX2_finishAt_107 rfl ?_
          refine xg_get (κ := 8) (ci := 4) (C := RX4) (T := TX4) (N := 12) hx hb hts inX4 hown hK hW (O.p hτ hk) (by decide) rfl rfl 4 (by decide) (hts (.fieldLink RX2 173 "HalfTickets$Person" "through" "I") (List.mem_of_getElem? (i := 2) (by decide +kernel))) (fun _ h9 => h9) rfl dX2_finishAt_108 ?_
          refine lv_iconst (v := (nI 1)) hx hb dX2_finishAt_111 (by decide) ?_
          refine lv_iadd hx hb dX2_finishAt_112 ?_
          refine xg_put (κ := 8) (ci := 4) (C := RX4) (T := TX4) (N := 12) hx hb hts inX4 tyX4 tyX4_ok nmX4 hown hK O hW hS (O.p hτ hk) (by decide) rfl rfl 4 (by decide) (v := ((M_18 (a + 2 * k + 34) 4) + (nI 1))) rfl (xw_okp hW (O.p hτ hk) (by decide)) (hts (.fieldLink RX2 173 "HalfTickets$Person" "through" "I") (List.mem_of_getElem? (i := 2) (by decide +kernel))) (fun _ h9 => h9) rfl (ty := .int) (by decide +kernel) rfl rfl (Nat.le_of_ble_eq_true rfl) dX2_finishAt_113 (fun H locs hW hS => ?_)
          obtain ⟨M_20, eM_20⟩ : ∃ M9, M9 = xu_p M_18 (a + 2 * k + 34) 4 ((M_18 (a + 2 * k + 34) 4) + (nI 1)) := ⟨_, rfl⟩
          rw [← eM_20] at hW
          refine lv_goto (tgt := 139) hx hb dX2_finishAt_116 (by decide) ?_
          refine lv_aload_n hx hb dX2_finishAt_139 rfl (lv_at hl 2 rfl) ?_
          refine lv_iconst (v := (nI 1)) hx hb dX2_finishAt_140 (by decide) ?_
          refine xg_put (κ := 8) (ci := 4) (C := RX4) (T := TX4) (N := 12) hx hb hts inX4 tyX4 tyX4_ok nmX4 hown hK O hW hS (O.p hτ hk) (by decide) rfl rfl 11 (by decide) (v := (nI 1)) rfl ⟨(xw_okp hW (O.p hτ hk) (by decide)).1, xb_1⟩ (hts (.fieldLink RX2 138 "HalfTickets$Person" "cameInThisTick" "Z") (List.mem_of_getElem? (i := 9) (by decide +kernel))) (fun _ h9 => h9) rfl (ty := .boolean) (by decide +kernel) (xb_nar xb_1) (xb_fit xb_1) (Nat.le_of_ble_eq_true rfl) dX2_finishAt_141 (fun H locs hW hS => ?_)
          obtain ⟨M_21, eM_21⟩ : ∃ M9, M9 = xu_p M_20 (a + 2 * k + 34) 11 (nI 1) := ⟨_, rfl⟩
          rw [← eM_21] at hW
          refine lv_aload_n hx hb dX2_finishAt_144 rfl (lv_at hl 0 rfl) ?_
          refine lv_aload_n hx hb dX2_finishAt_145 rfl (lv_at hl 2 rfl) ?_
          have ht1 : tt + 1 < mm := by have e := c_2; rw [htt, hmm, show nI tt + nI 1 = nI (tt + 1) from nI_add tt 1] at e; exact (nI_ltI (by omega) (by omega)).mp e
          obtain ⟨u, hu, hut⟩ := he (tt + 1) ht1
          obtain ⟨L, hL, hQL⟩ := hQ u hu
          have hat : zk_at M_21 (a + 2 * k + 34) (tt + 1) mm u := ⟨by simp (disch := omega) only [eM_21, eM_20, eM_18, eM_17, eM_1, xu_s, xu_n]; exact hmm, (by simp (disch := omega) only [eM_21, eM_20, eM_18, eM_17, eM_1, xu_s, xu_n]; rw [htt]; exact nI_add tt 1), ht1, hm8, by simp (disch := omega) only [eM_21, eM_20, eM_18, eM_17, eM_1, xu_s, xu_n]; exact hut, hu⟩
          have hQ5 : M_21 (a + 5 * u + 5) 1 = nI L := by simp (disch := omega) only [eM_21, eM_20, eM_18, eM_17, eM_1, xu_s, xu_n]; exact hQL
          refine xc_v (xr_V (As := [.ref (a + 2 * k + 34)]) (rest := []) (κ := 1) ⟨hx, hb, hml, hown, hts⟩ (c_X2_joinQueue l O M_21 a k hτ hk hat hL hQ5) (cwV 1 hts gX2_finishAt_X2_joinQueue rfl rfl rfl (by decide +kernel) ⟨Nat.le_of_ble_eq_true rfl, Nat.le_of_ble_eq_true rfl⟩) hK hst hnw hS hW hτ (by decide) rfl rfl rfl hl.1 rfl (Nat.le_of_ble_eq_true rfl) dX2_finishAt_146 ⟨Nat.zero_le _, Nat.zero_le _⟩) hS (fun M_22 H locs hq_23 hW hS => ?_)
          exact W.vret hx hb hr (fun t ht hWm => ⟨⟨M_22, rfl, (by rw [hq_23]; simp (disch := omega) only [eM_21, eM_20, eM_18, eM_17, eM_1, xu_s, xu_n]; unfold zm_fi zm_f1; rw [if_pos c_2, if_neg c_3, if_pos c_16]), xw_end ht hW⟩, hS.F ht⟩) hS.2.2 dX2_finishAt_149
      · simp (disch := omega) only [eM_1, xu_s, xu_n] at c_16
        refine lv_iconst (v := (nI 0)) hx hb dX2_finishAt_85 (by decide) ?_
        refine lv_goto (tgt := 90) hx hb dX2_finishAt_86 (by decide) ?_
        refine lv_iadd hx hb dX2_finishAt_90 ?_
        refine xg_put (κ := 5) (ci := 5) (C := RX5) (T := TX5) (N := 7) hx hb hts inX5 tyX5 tyX5_ok nmX5 hown hK O hW hS (O.w hτ hw) (by decide) rfl rfl 2 (by decide) (v := ((M_1 (a + 5 * w + 4) 2) + (nI 0))) rfl (xw_okp hW (O.w hτ hw) (by decide)) (hts (.fieldLink RX2 72 "HalfTickets$Window" "halves" "I") (List.mem_of_getElem? (i := 4) (by decide +kernel))) (fun _ h9 => h9) rfl (ty := .int) (by decide +kernel) rfl rfl (Nat.le_of_ble_eq_true rfl) dX2_finishAt_91 (fun H locs hW hS => ?_)
        obtain ⟨M_25, eM_25⟩ : ∃ M9, M9 = xu_p M_1 (a + 5 * w + 4) 2 ((M_1 (a + 5 * w + 4) 2) + (nI 0)) := ⟨_, rfl⟩
        rw [← eM_25] at hW
        refine lv_aload_n hx hb dX2_finishAt_94 rfl (lv_at hl 2 rfl) ?_
        refine lv_iconst (v := (nI 1)) hx hb dX2_finishAt_95 (by decide) ?_
        refine xg_put (κ := 8) (ci := 4) (C := RX4) (T := TX4) (N := 12) hx hb hts inX4 tyX4 tyX4_ok nmX4 hown hK O hW hS (O.p hτ hk) (by decide) rfl rfl 5 (by decide) (v := (nI 1)) rfl ⟨xb_1, (xw_okp hW (O.p hτ hk) (by decide)).2⟩ (hts (.fieldLink RX2 75 "HalfTickets$Person" "hasHalf" "Z") (List.mem_of_getElem? (i := 5) (by decide +kernel))) (fun _ h9 => h9) rfl (ty := .boolean) (by decide +kernel) (xb_nar xb_1) (xb_fit xb_1) (Nat.le_of_ble_eq_true rfl) dX2_finishAt_96 (fun H locs hW hS => ?_)
        obtain ⟨M_26, eM_26⟩ : ∃ M9, M9 = xu_p M_25 (a + 2 * k + 34) 5 (nI 1) := ⟨_, rfl⟩
        rw [← eM_26] at hW
        refine lv_aload_n hx hb dX2_finishAt_99 rfl (lv_at hl 2 rfl) ?_
        refine xg_get (κ := 8) (ci := 4) (C := RX4) (T := TX4) (N := 12) hx hb hts inX4 hown hK hW (O.p hτ hk) (by decide) rfl rfl 5 (by decide) (hts (.fieldLink RX2 75 "HalfTickets$Person" "hasHalf" "Z") (List.mem_of_getElem? (i := 5) (by decide +kernel))) (fun _ h9 => h9) rfl dX2_finishAt_100 ?_
        refine lv_if_eq (tgt := 119) hx hb dX2_finishAt_103 (by decide) (fun c_27 => ?_) (fun c_27 => ?_)
        · rw [eM_26, xu_s] at c_27
          exact absurd c_27 (by decide)
        · refine lv_aload_n hx hb dX2_finishAt_106 rfl (lv_at hl 2 rfl) ?_
          refine lv_dup hx hb dX2_finishAt_107 rfl ?_
          refine xg_get (κ := 8) (ci := 4) (C := RX4) (T := TX4) (N := 12) hx hb hts inX4 hown hK hW (O.p hτ hk) (by decide) rfl rfl 4 (by decide) (hts (.fieldLink RX2 173 "HalfTickets$Person" "through" "I") (List.mem_of_getElem? (i := 2) (by decide +kernel))) (fun _ h9 => h9) rfl dX2_finishAt_108 ?_
          refine lv_iconst (v := (nI 1)) hx hb dX2_finishAt_111 (by decide) ?_
          refine lv_iadd hx hb dX2_finishAt_112 ?_
          refine xg_put (κ := 8) (ci := 4) (C := RX4) (T := TX4) (N := 12) hx hb hts inX4 tyX4 tyX4_ok nmX4 hown hK O hW hS (O.p hτ hk) (by decide) rfl rfl 4 (by decide) (v := ((M_26 (a + 2 * k + 34) 4) + (nI 1))) rfl (xw_okp hW (O.p hτ hk) (by decide)) (hts (.fieldLink RX2 173 "HalfTickets$Person" "through" "I") (List.mem_of_getElem? (i := 2) (by decide +kernel))) (fun _ h9 => h9) rfl (ty := .int) (by decide +kernel) rfl rfl (Nat.le_of_ble_eq_true rfl) dX2_finishAt_113 (fun H locs hW hS => ?_)
          obtain ⟨M_28, eM_28⟩ : ∃ M9, M9 = xu_p M_26 (a + 2 * k + 34) 4 ((M_26 (a + 2 * k + 34) 4) + (nI 1)) := ⟨_, rfl⟩
          rw [← eM_28] at hW
          refine lv_goto (tgt := 139) hx hb dX2_finishAt_116 (by decide) ?_
          refine lv_aload_n hx hb dX2_finishAt_139 rfl (lv_at hl 2 rfl) ?_
          refine lv_iconst (v := (nI 1)) hx hb dX2_finishAt_140 (by decide) ?_
          refine xg_put (κ := 8) (ci := 4) (C := RX4) (T := TX4) (N := 12) hx hb hts inX4 tyX4 tyX4_ok nmX4 hown hK O hW hS (O.p hτ hk) (by decide) rfl rfl 11 (by decide) (v := (nI 1)) rfl ⟨(xw_okp hW (O.p hτ hk) (by decide)).1, xb_1⟩ (hts (.fieldLink RX2 138 "HalfTickets$Person" "cameInThisTick" "Z") (List.mem_of_getElem? (i := 9) (by decide +kernel))) (fun _ h9 => h9) rfl (ty := .boolean) (by decide +kernel) (xb_nar xb_1) (xb_fit xb_1) (Nat.le_of_ble_eq_true rfl) dX2_finishAt_141 (fun H locs hW hS => ?_)
          obtain ⟨M_29, eM_29⟩ : ∃ M9, M9 = xu_p M_28 (a + 2 * k + 34) 11 (nI 1) := ⟨_, rfl⟩
          rw [← eM_29] at hW
          refine lv_aload_n hx hb dX2_finishAt_144 rfl (lv_at hl 0 rfl) ?_
          refine lv_aload_n hx hb dX2_finishAt_145 rfl (lv_at hl 2 rfl) ?_
          have ht1 : tt + 1 < mm := by have e := c_2; rw [htt, hmm, show nI tt + nI 1 = nI (tt + 1) from nI_add tt 1] at e; exact (nI_ltI (by omega) (by omega)).mp e
          obtain ⟨u, hu, hut⟩ := he (tt + 1) ht1
          obtain ⟨L, hL, hQL⟩ := hQ u hu
          have hat : zk_at M_29 (a + 2 * k + 34) (tt + 1) mm u := ⟨by simp (disch := omega) only [eM_29, eM_28, eM_26, eM_25, eM_1, xu_s, xu_n]; exact hmm, (by simp (disch := omega) only [eM_29, eM_28, eM_26, eM_25, eM_1, xu_s, xu_n]; rw [htt]; exact nI_add tt 1), ht1, hm8, by simp (disch := omega) only [eM_29, eM_28, eM_26, eM_25, eM_1, xu_s, xu_n]; exact hut, hu⟩
          have hQ5 : M_29 (a + 5 * u + 5) 1 = nI L := by simp (disch := omega) only [eM_29, eM_28, eM_26, eM_25, eM_1, xu_s, xu_n]; exact hQL
          refine xc_v (xr_V (As := [.ref (a + 2 * k + 34)]) (rest := []) (κ := 1) ⟨hx, hb, hml, hown, hts⟩ (c_X2_joinQueue l O M_29 a k hτ hk hat hL hQ5) (cwV 1 hts gX2_finishAt_X2_joinQueue rfl rfl rfl (by decide +kernel) ⟨Nat.le_of_ble_eq_true rfl, Nat.le_of_ble_eq_true rfl⟩) hK hst hnw hS hW hτ (by decide) rfl rfl rfl hl.1 rfl (Nat.le_of_ble_eq_true rfl) dX2_finishAt_146 ⟨Nat.zero_le _, Nat.zero_le _⟩) hS (fun M_30 H locs hq_31 hW hS => ?_)
          exact W.vret hx hb hr (fun t ht hWm => ⟨⟨M_30, rfl, (by rw [hq_31]; simp (disch := omega) only [eM_29, eM_28, eM_26, eM_25, eM_1, xu_s, xu_n]; unfold zm_fi zm_f1; rw [if_pos c_2, if_neg c_3, if_neg c_16]), xw_end ht hW⟩, hS.F ht⟩) hS.2.2 dX2_finishAt_149
  · simp (disch := omega) only [eM_1, xu_s, xu_n] at c_2
    refine lv_aload_n hx hb dX2_finishAt_23 rfl (lv_at hl 2 rfl) ?_
    refine lv_dup hx hb dX2_finishAt_24 rfl ?_
    refine xg_get (κ := 8) (ci := 4) (C := RX4) (T := TX4) (N := 12) hx hb hts inX4 hown hK hW (O.p hτ hk) (by decide) rfl rfl 4 (by decide) (hts (.fieldLink RX2 173 "HalfTickets$Person" "through" "I") (List.mem_of_getElem? (i := 2) (by decide +kernel))) (fun _ h9 => h9) rfl dX2_finishAt_25 ?_
    refine lv_iconst (v := (nI 1)) hx hb dX2_finishAt_28 (by decide) ?_
    refine lv_iadd hx hb dX2_finishAt_29 ?_
    refine xg_put (κ := 8) (ci := 4) (C := RX4) (T := TX4) (N := 12) hx hb hts inX4 tyX4 tyX4_ok nmX4 hown hK O hW hS (O.p hτ hk) (by decide) rfl rfl 4 (by decide) (v := ((M_1 (a + 2 * k + 34) 4) + (nI 1))) rfl (xw_okp hW (O.p hτ hk) (by decide)) (hts (.fieldLink RX2 173 "HalfTickets$Person" "through" "I") (List.mem_of_getElem? (i := 2) (by decide +kernel))) (fun _ h9 => h9) rfl (ty := .int) (by decide +kernel) rfl rfl (Nat.le_of_ble_eq_true rfl) dX2_finishAt_30 (fun H locs hW hS => ?_)
    obtain ⟨M_33, eM_33⟩ : ∃ M9, M9 = xu_p M_1 (a + 2 * k + 34) 4 ((M_1 (a + 2 * k + 34) 4) + (nI 1)) := ⟨_, rfl⟩
    rw [← eM_33] at hW
    refine lv_aload_n hx hb dX2_finishAt_33 rfl (lv_at hl 1 rfl) ?_
    refine lv_dup hx hb dX2_finishAt_34 rfl ?_
    refine xg_get (κ := 5) (ci := 5) (C := RX5) (T := TX5) (N := 7) hx hb hts inX5 hown hK hW (O.w hτ hw) (by decide) rfl rfl 2 (by decide) (hts (.fieldLink RX2 72 "HalfTickets$Window" "halves" "I") (List.mem_of_getElem? (i := 4) (by decide +kernel))) (fun _ h9 => h9) rfl dX2_finishAt_35 ?_
    refine lv_aload_n hx hb dX2_finishAt_38 rfl (lv_at hl 2 rfl) ?_
    refine xg_get (κ := 8) (ci := 4) (C := RX4) (T := TX4) (N := 12) hx hb hts inX4 hown hK hW (O.p hτ hk) (by decide) rfl rfl 5 (by decide) (hts (.fieldLink RX2 75 "HalfTickets$Person" "hasHalf" "Z") (List.mem_of_getElem? (i := 5) (by decide +kernel))) (fun _ h9 => h9) rfl dX2_finishAt_39 ?_
    refine lv_if_eq (tgt := 49) hx hb dX2_finishAt_42 (by decide) (fun c_34 => ?_) (fun c_34 => ?_)
    · simp (disch := omega) only [eM_33, eM_1, xu_s, xu_n] at c_34
      refine lv_iconst (v := (nI 0)) hx hb dX2_finishAt_49 (by decide) ?_
      refine lv_iadd hx hb dX2_finishAt_50 ?_
      refine xg_put (κ := 5) (ci := 5) (C := RX5) (T := TX5) (N := 7) hx hb hts inX5 tyX5 tyX5_ok nmX5 hown hK O hW hS (O.w hτ hw) (by decide) rfl rfl 2 (by decide) (v := ((M_33 (a + 5 * w + 4) 2) + (nI 0))) rfl (xw_okp hW (O.w hτ hw) (by decide)) (hts (.fieldLink RX2 72 "HalfTickets$Window" "halves" "I") (List.mem_of_getElem? (i := 4) (by decide +kernel))) (fun _ h9 => h9) rfl (ty := .int) (by decide +kernel) rfl rfl (Nat.le_of_ble_eq_true rfl) dX2_finishAt_51 (fun H locs hW hS => ?_)
      obtain ⟨M_35, eM_35⟩ : ∃ M9, M9 = xu_p M_33 (a + 5 * w + 4) 2 ((M_33 (a + 5 * w + 4) 2) + (nI 0)) := ⟨_, rfl⟩
      rw [← eM_35] at hW
      refine lv_aload_n hx hb dX2_finishAt_54 rfl (lv_at hl 2 rfl) ?_
      refine lv_iconst (v := (nI 2)) hx hb dX2_finishAt_55 (by decide) ?_
      refine lv_aload_n hx hb dX2_finishAt_56 rfl (lv_at hl 0 rfl) ?_
      refine xg_get (κ := 1) (ci := 2) (C := RX2) (T := TX2) (N := 7) hx hb hts inX2 hown hK hW hτ (by decide) rfl rfl 4 (by decide) (hts (.fieldLink RX2 56 "HalfTickets$Ministry" "ticks" "I") (List.mem_of_getElem? (i := 6) (by decide +kernel))) (fun _ h9 => h9) rfl dX2_finishAt_57 ?_
      refine lv_iconst (v := (nI 1)) hx hb dX2_finishAt_60 (by decide) ?_
      refine lv_iadd hx hb dX2_finishAt_61 ?_
      refine xc_v (xr_V (As := [.int (nI 2), .int ((M_35 a 4) + (nI 1))]) (rest := []) (κ := 8) ⟨hx, hb, hml, hown, hts⟩ (c_X4_goAs l O M_35 (a + 2 * k + 34) (O.p hτ hk) (nI 2) ((M_35 a 4) + (nI 1))) (cwV 2 hts gX2_finishAt_X4_goAs rfl rfl rfl (by decide +kernel) ⟨Nat.le_of_ble_eq_true rfl, Nat.le_of_ble_eq_true rfl⟩) hK hst hnw hS hW (O.p hτ hk) (by decide) rfl rfl rfl hl.1 rfl (Nat.le_of_ble_eq_true rfl) dX2_finishAt_62 ⟨Nat.zero_le _, Nat.zero_le _⟩) hS (fun M_36 H locs hq_37 hW hS => ?_)
      exact W.vret hx hb hr (fun t ht hWm => ⟨⟨M_36, rfl, (by rw [hq_37]; simp (disch := omega) only [eM_35, eM_33, eM_1, xu_s, xu_n]; unfold zm_fi zm_f0 zm_go; rw [if_neg c_2, zh_p c_34]), xw_end ht hW⟩, hS.F ht⟩) hS.2.2 dX2_finishAt_65
    · simp (disch := omega) only [eM_33, eM_1, xu_s, xu_n] at c_34
      refine lv_iconst (v := (nI 1)) hx hb dX2_finishAt_45 (by decide) ?_
      refine lv_goto (tgt := 50) hx hb dX2_finishAt_46 (by decide) ?_
      refine lv_iadd hx hb dX2_finishAt_50 ?_
      refine xg_put (κ := 5) (ci := 5) (C := RX5) (T := TX5) (N := 7) hx hb hts inX5 tyX5 tyX5_ok nmX5 hown hK O hW hS (O.w hτ hw) (by decide) rfl rfl 2 (by decide) (v := ((M_33 (a + 5 * w + 4) 2) + (nI 1))) rfl (xw_okp hW (O.w hτ hw) (by decide)) (hts (.fieldLink RX2 72 "HalfTickets$Window" "halves" "I") (List.mem_of_getElem? (i := 4) (by decide +kernel))) (fun _ h9 => h9) rfl (ty := .int) (by decide +kernel) rfl rfl (Nat.le_of_ble_eq_true rfl) dX2_finishAt_51 (fun H locs hW hS => ?_)
      obtain ⟨M_39, eM_39⟩ : ∃ M9, M9 = xu_p M_33 (a + 5 * w + 4) 2 ((M_33 (a + 5 * w + 4) 2) + (nI 1)) := ⟨_, rfl⟩
      rw [← eM_39] at hW
      refine lv_aload_n hx hb dX2_finishAt_54 rfl (lv_at hl 2 rfl) ?_
      refine lv_iconst (v := (nI 2)) hx hb dX2_finishAt_55 (by decide) ?_
      refine lv_aload_n hx hb dX2_finishAt_56 rfl (lv_at hl 0 rfl) ?_
      refine xg_get (κ := 1) (ci := 2) (C := RX2) (T := TX2) (N := 7) hx hb hts inX2 hown hK hW hτ (by decide) rfl rfl 4 (by decide) (hts (.fieldLink RX2 56 "HalfTickets$Ministry" "ticks" "I") (List.mem_of_getElem? (i := 6) (by decide +kernel))) (fun _ h9 => h9) rfl dX2_finishAt_57 ?_
      refine lv_iconst (v := (nI 1)) hx hb dX2_finishAt_60 (by decide) ?_
      refine lv_iadd hx hb dX2_finishAt_61 ?_
      refine xc_v (xr_V (As := [.int (nI 2), .int ((M_39 a 4) + (nI 1))]) (rest := []) (κ := 8) ⟨hx, hb, hml, hown, hts⟩ (c_X4_goAs l O M_39 (a + 2 * k + 34) (O.p hτ hk) (nI 2) ((M_39 a 4) + (nI 1))) (cwV 2 hts gX2_finishAt_X4_goAs rfl rfl rfl (by decide +kernel) ⟨Nat.le_of_ble_eq_true rfl, Nat.le_of_ble_eq_true rfl⟩) hK hst hnw hS hW (O.p hτ hk) (by decide) rfl rfl rfl hl.1 rfl (Nat.le_of_ble_eq_true rfl) dX2_finishAt_62 ⟨Nat.zero_le _, Nat.zero_le _⟩) hS (fun M_40 H locs hq_41 hW hS => ?_)
      exact W.vret hx hb hr (fun t ht hWm => ⟨⟨M_40, rfl, (by rw [hq_41]; simp (disch := omega) only [eM_39, eM_33, eM_1, xu_s, xu_n]; unfold zm_fi zm_f0 zm_go; rw [if_neg c_2, zh_n c_34]), xw_end ht hW⟩, hS.F ht⟩) hS.2.2 dX2_finishAt_65
