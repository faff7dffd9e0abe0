/-! QUESTIONS -/
theorem zs_no {M : xm_T} {p : Nat} (h : ¬ (M p 3 = nI 0 ∨ M p 3 = nI 1)) : zs_at M p = -6 := by
  unfold zs_at
  rw [if_neg (fun z => h z.1)]
theorem zi_tm {a n T G B k : Nat} {M : xm_T} (h : zi a M n T G B) (hk : k < n) : ∃ t m : Nat, M (a + 2 * k + 34) 4 = nI t ∧ M (a + 2 * k + 34) 2 = nI m ∧ m ≤ 8 ∧ t < 2 ^ 31 := by
  obtain ⟨m, t, p1, p2, p3, p4, p5, p6⟩ := h.2.2.2.1 k hk
  refine ⟨t, m, p4, p3, p2, ?_⟩
  rcases p6 with q | q | q
  · have := q.2.1; omega
  · have := q.2.1; omega
  · have := q.2.1; omega
theorem zy.cg {b : Nat} {M M' : xm_T} (h : zy b M M') : zz_g (b + 83) (b + 83) (zy_c b M) (zy_c b M') := fun c hc => by
  rw [← zy_cg c hc, ← zy_cg c hc]
  exact h.g c hc
theorem zy_n {b : Nat} {M M' : xm_T} (h : zy b M M') (hp : zp_N b M) : zp_N b M' := fun k hk => ⟨by rw [h.1 _ (by omega)]; exact (hp k hk).1, h.2 k hk, fun i hi => by rw [h.1 _ (by omega)]; exact (hp k hk).2.2.1 i hi, fun i hi => by rw [h.1 _ (by omega)]; exact (hp k hk).2.2.2 i hi⟩
theorem zy_tk {b n T B i : Nat} {M Z : xm_T} (hz : zi (b + 83) Z n T T B) (ho : zz_o (b + 83) (zy_c b M) Z) (hB : B + 144 * i < 2 ^ 31) : zy b M (zm_it (zm_ti (b + 83)) i Z) :=
  zy_st (zi_tn i hz hB) (fun x hx => (zo_tn i x hx).trans (ho x hx))
theorem zo_rf {a : Nat} {M : xm_T} : zz_o a M M := fun _ _ => rfl
theorem zo_c1 {a w : Nat} {M : xm_T} : zz_o a M (zf_c1 a w M) := (zZ_c1 (zZ_rf (fun _ _ => rfl : zz_g a a M M)) w).2.1

set_option maxHeartbeats 4000000 in
set_option maxRecDepth 100000 in
/-- placeInQueue(k) -/
theorem c_X2_placeInQueue (l : Launch) {G : va_G} {g : Nat → ClassId} {t0 τ : Nat → Nat} {A : Nat → Prop} (O : xk_O τ A) (M : xm_T) (a k : Nat) (hτ : τ a = 1) {nn TT GG BB : Nat} (h : zi a M nn TT GG BB) (hk : k < nn) : Met l yX2_placeInQueue wsX2_placeInQueue ({ frames := 1, cells := 0, slots := 0, locals := 30 }) (va_Pc [.ref a, .ref (a + 2 * k + 34)] (xS_t G g t0 τ A M)) (va_Qi (fun r M' => r = zf_pl a M k ∧ M' = M) (fun M' t => xw_D G g τ M' t.heap) A) 0 0 A := by
  refine Met.ofW (cc := cX2_placeInQueue) (maxL := 3) (ret := (some .int)) (by decide) rfl ?_
  intro p e s m args below meth c s₁ B hml hv
  obtain ⟨rfl, hW, hK, hst, hnw⟩ := hv
  have hx := B.exec
  have hb := B.bytes
  have hr := B.returns
  have hts := atoms_spec (ws := wsX2_placeInQueue) B.pre
  have hown : s.vm.findClass RX2 = some m.cls := findClass_of_methodNamed B.named
  have hlocks := B.notSynchronized
  have hS : va_S A s.heap s.heap [] := va_S.rf
  have inX4 : ∀ w ∈ u_ws RX4 TX4 12, w ∈ wsX2_placeInQueue := by decide +kernel
  have inX5 : ∀ w ∈ u_ws RX5 TX5 7, w ∈ wsX2_placeInQueue := by decide +kernel
  have hl := lv_entry ([.ref a, .ref (a + 2 * k + 34)]) (n := 3) (Nat.le_of_ble_eq_true rfl)
  rw [lg_entry_eq]
  generalize (lg_sl ([.ref a, .ref (a + 2 * k + 34)]) ++ List.replicate (3 - (lg_sl ([.ref a, .ref (a + 2 * k + 34)])).length) Slot.unset).toArray = ls at hl ⊢
  have hl : lv_has ls 3 [(0, .ref a), (1, .ref (a + 2 * k + 34))] := hl
  have hk24 : k < 24 := by have := h.n; omega
  obtain ⟨tt, mm, htt, hmm, hm8, ht8⟩ := zi_tm h hk
  refine lv_aload_n hx hb dX2_placeInQueue_0 rfl (lv_at hl 0 rfl) ?_
  refine lv_aload_n hx hb dX2_placeInQueue_1 rfl (lv_at hl 1 rfl) ?_
  refine xc_i (xr_V (As := []) (rest := [.ref a]) (κ := 8) ⟨hx, hb, hml, hown, hts⟩ (c_X4_standsAt l O M (a + 2 * k + 34) (O.p hτ hk24) htt hmm hm8 ht8) (cwV 0 hts gX2_placeInQueue_X4_standsAt rfl rfl rfl (by decide +kernel) ⟨Nat.le_of_ble_eq_true rfl, Nat.le_of_ble_eq_true rfl⟩) hK hst hnw hS hW (O.p hτ hk24) (by decide) rfl rfl rfl hl.1 rfl (Nat.le_of_ble_eq_true rfl) dX2_placeInQueue_2 ⟨Nat.zero_le _, Nat.zero_le _⟩) hS (fun r_3 M_1 H locs hq_2 hW hS => ?_)
  obtain ⟨hq_2a, hq_2b⟩ := hq_2
  rw [hq_2b] at hW
  rw [hq_2a]
  by_cases hwh : M (a + 2 * k + 34) 3 = nI 0 ∨ M (a + 2 * k + 34) 3 = nI 1
  · obtain ⟨t2, m2, w, hat⟩ := (h.2.2.2.1 k hk).at hwh
    have hw6 : w < 6 := hat.2.2.2.2.2
    obtain ⟨L, hL, hQ⟩ := zi_Lq h hw6
    rw [zs_in hat hwh]
    refine xc_q (xr_V (As := [.int (nI w)]) (rest := []) (κ := 1) ⟨hx, hb, hml, hown, hts⟩ (c_X2_windowAt l O M a hτ (nI w)) (cwV 1 hts gX2_placeInQueue_X2_windowAt rfl rfl rfl (by decide +kernel) ⟨Nat.le_of_ble_eq_true rfl, Nat.le_of_ble_eq_true rfl⟩) hK hst hnw hS hW hτ (by decide) rfl rfl rfl hl.1 rfl (Nat.le_of_ble_eq_true rfl) dX2_placeInQueue_5 ⟨Nat.zero_le _, Nat.zero_le _⟩) hS (fun r_6 M_4 H locs hq_5 hW hS => ?_)
    obtain ⟨hq_5a, hq_5b⟩ := hq_5
    rw [hq_5b] at hW
    rw [hq_5a]
    rw [xf_win_s a hw6]
    refine W.eq (g2 := F0 m 8 ls [.ref (a + 5 * w + 4)]) rfl ?_
    refine lv_astore_n (lv' := [(2, .ref (a + 5 * w + 4)), (0, .ref a), (1, .ref (a + 2 * k + 34))]) hx hb dX2_placeInQueue_8 rfl hl (by decide) rfl (fun ls hl => ?_)
    refine lv_aload_n hx hb dX2_placeInQueue_9 rfl (lv_at hl 0 rfl) ?_
    refine lv_ifnonnull (tgt := 18) hx hb dX2_placeInQueue_10 (by decide) ?_
    refine lv_aload_n hx hb dX2_placeInQueue_18 rfl (lv_at hl 0 rfl) ?_
    refine xg_get (κ := 5) (ci := 5) (C := RX5) (T := TX5) (N := 7) hx hb hts inX5 hown hK hW (O.w hτ hw6) (by decide) rfl rfl 5 (by decide) (hts (.fieldLink RX2 92 "HalfTickets$Window" "queue" "LHalfTickets$Line;") (List.mem_of_getElem? (i := 1) (by decide +kernel))) (fun _ h9 => h9) rfl dX2_placeInQueue_19 ?_
    refine lv_aload_n hx hb dX2_placeInQueue_22 rfl (lv_at hl 2 rfl) ?_
    refine xg_get (κ := 8) (ci := 4) (C := RX4) (T := TX4) (N := 12) hx hb hts inX4 hown hK hW (O.p hτ hk24) (by decide) rfl rfl 0 (by decide) (hts (.fieldLink RX2 96 "HalfTickets$Person" "number" "I") (List.mem_of_getElem? (i := 2) (by decide +kernel))) (fun _ h9 => h9) rfl dX2_placeInQueue_23 ?_
    refine xc_i (xr_V (As := [.int (M (a + 2 * k + 34) 0)]) (rest := []) (κ := 6) ⟨hx, hb, hml, hown, hts⟩ (c_X1_placeOf l O M (a + 5 * w + 5) (O.q (O.w hτ hw6)) hL hQ (M (a + 2 * k + 34) 0)) (cwV 1 hts gX2_placeInQueue_X1_placeOf rfl rfl rfl (by decide +kernel) ⟨Nat.le_of_ble_eq_true rfl, Nat.le_of_ble_eq_true rfl⟩) hK hst hnw hS hW (O.q (O.w hτ hw6)) (by decide) rfl rfl rfl hl.1 rfl (Nat.le_of_ble_eq_true rfl) dX2_placeInQueue_26 ⟨Nat.zero_le _, Nat.zero_le _⟩) hS (fun r_9 M_7 H locs hq_8 hW hS => ?_)
    obtain ⟨hq_8a, hq_8b⟩ := hq_8
    rw [hq_8b] at hW
    rw [hq_8a]
    exact W.iret (v := (zl_pr M (a + 5 * w + 5) (M (a + 2 * k + 34) 0) L)) hx hb hr (fun t ht hWm => ⟨⟨(zl_pr M (a + 5 * w + 5) (M (a + 2 * k + 34) 0) L), M, rfl, ⟨(by unfold zf_pl; rw [zk_wz hat, if_pos ⟨hwh, hw6⟩, hQ, nI_clamp (by omega)]), rfl⟩, xw_end ht hW⟩, hS.F ht⟩) hS.2.2 dX2_placeInQueue_29
  · rw [zs_no hwh]
    refine xc_q (xr_V (As := [.int (-6)]) (rest := []) (κ := 1) ⟨hx, hb, hml, hown, hts⟩ (c_X2_windowAt l O M a hτ (-6)) (cwV 1 hts gX2_placeInQueue_X2_windowAt rfl rfl rfl (by decide +kernel) ⟨Nat.le_of_ble_eq_true rfl, Nat.le_of_ble_eq_true rfl⟩) hK hst hnw hS hW hτ (by decide) rfl rfl rfl hl.1 rfl (Nat.le_of_ble_eq_true rfl) dX2_placeInQueue_5 ⟨Nat.zero_le _, Nat.zero_le _⟩) hS (fun r_12 M_10 H locs hq_11 hW hS => ?_)
    obtain ⟨hq_11a, hq_11b⟩ := hq_11
    rw [hq_11b] at hW
    rw [hq_11a]
    rw [xf_win_n a (Or.inl (by decide))]
    refine W.eq (g2 := F0 m 8 ls [.null]) rfl ?_
    refine lv_astore_nN (lv' := [(2, .null), (0, .ref a), (1, .ref (a + 2 * k + 34))]) hx hb dX2_placeInQueue_8 rfl hl (by decide) rfl (fun ls hl => ?_)
    refine lv_aload_nN hx hb dX2_placeInQueue_9 rfl (lv_at hl 0 rfl) ?_
    refine lv_ifnonnullN hx hb dX2_placeInQueue_10 ?_
    refine lv_bipush (v := (-6)) hx hb dX2_placeInQueue_13 (by decide) ?_
    refine lv_goto (tgt := 29) hx hb dX2_placeInQueue_15 (by decide) ?_
    exact W.iret (v := (-6)) hx hb hr (fun t ht hWm => ⟨⟨(-6), M, rfl, ⟨(by unfold zf_pl; rw [if_neg (fun z => hwh z.1)]), rfl⟩, xw_end ht hW⟩, hS.F ht⟩) hS.2.2 dX2_placeInQueue_29

set_option maxHeartbeats 4000000 in
set_option maxRecDepth 100000 in
/-- person(k, j) -/
theorem cz_person (l : Launch) {G : va_G} {g : Nat → ClassId} {t0 τ : Nat → Nat} {A : Nat → Prop} (O : xk_O τ A) (M : xm_T) (b : Nat) (hτ : τ b = 16) {nn TT GG BB : Nat} (hz : zi (b + 1) M nn TT GG BB) {k jj : Nat} (hk : k < nn) (hj : jj < 9) : Met l yX6_person wsX6_person ({ frames := 5, cells := 0, slots := 0, locals := 160 }) (va_Pc [.ref b, .int (nI k), .int (nI jj)] (xS_t G g t0 τ A M)) (va_Qi (fun r M' => r = zf_pe (b + 1) M k jj ∧ M' = M) (fun M' t => xw_D G g τ M' t.heap) A) 0 0 A := by
  refine Met.ofW (cc := cX6_person) (maxL := 4) (ret := (some .int)) (by decide) rfl ?_
  intro p e s m args below meth c s₁ B hml hv
  obtain ⟨rfl, hW, hK, hst, hnw⟩ := hv
  have hx := B.exec
  have hb := B.bytes
  have hr := B.returns
  have hts := atoms_spec (ws := wsX6_person) B.pre
  have hown : s.vm.findClass RX6 = some m.cls := findClass_of_methodNamed B.named
  have hlocks := B.notSynchronized
  have hS : va_S A s.heap s.heap [] := va_S.rf
  have inX4 : ∀ w ∈ u_ws RX4 TX4 12, w ∈ wsX6_person := by decide +kernel
  have inX6 : ∀ w ∈ u_ws RX6 TX6 6, w ∈ wsX6_person := by decide +kernel
  have hl := lv_entry ([.ref b, .int (nI k), .int (nI jj)]) (n := 4) (Nat.le_of_ble_eq_true rfl)
  rw [lg_entry_eq]
  generalize (lg_sl ([.ref b, .int (nI k), .int (nI jj)]) ++ List.replicate (4 - (lg_sl ([.ref b, .int (nI k), .int (nI jj)])).length) Slot.unset).toArray = ls at hl ⊢
  have hl : lv_has ls 4 [(0, .ref b), (1, .int (nI k)), (2, .int (nI jj))] := hl
  have hk24 : k < 24 := by have := hz.n; omega
  obtain ⟨tt, mm, htt, hmm, hm8, ht8⟩ := zi_tm hz hk
  refine lv_aload_n hx hb dX6_person_0 rfl (lv_at hl 0 rfl) ?_
  refine xg_get (κ := 16) (ci := 6) (C := RX6) (T := TX6) (N := 6) hx hb hts inX6 hown hK hW hτ (by decide) rfl rfl 0 (by decide) (hts (.fieldLink RX6 10 "HalfTickets" "now" "LHalfTickets$Ministry;") (List.mem_of_getElem? (i := 1) (by decide +kernel))) (fun _ h9 => h9) rfl dX6_person_1 ?_
  refine lv_iload_n hx hb dX6_person_4 rfl (lv_at hl 1 rfl) ?_
  refine xc_q (xr_V (As := [.int (nI k)]) (rest := []) (κ := 1) ⟨hx, hb, hml, hown, hts⟩ (c_X2_personAt l O M (b + 1) (O.b1 hτ) (nI k)) (cwV 1 hts gX6_person_X2_personAt rfl rfl rfl (by decide +kernel) ⟨Nat.le_of_ble_eq_true rfl, Nat.le_of_ble_eq_true rfl⟩) hK hst hnw hS hW (O.b1 hτ) (by decide) rfl rfl rfl hl.1 rfl (Nat.le_of_ble_eq_true rfl) dX6_person_5 ⟨Nat.zero_le _, Nat.zero_le _⟩) hS (fun r_3 M_1 H locs hq_2 hW hS => ?_)
  obtain ⟨hq_2a, hq_2b⟩ := hq_2
  rw [hq_2b] at hW
  rw [hq_2a]
  rw [xf_per_s hz.1.2.1 hz.n hk]
  refine W.eq (g2 := F0 m 8 ls [.ref (b + 1 + 2 * k + 34)]) rfl ?_
  refine lv_astore_n (lv' := [(3, .ref (b + 1 + 2 * k + 34)), (0, .ref b), (1, .int (nI k)), (2, .int (nI jj))]) hx hb dX6_person_8 rfl hl (by decide) rfl (fun ls hl => ?_)
  refine lv_aload_n hx hb dX6_person_9 rfl (lv_at hl 0 rfl) ?_
  refine lv_ifnonnull (tgt := 15) hx hb dX6_person_10 (by decide) ?_
  refine lv_iload_n hx hb dX6_person_15 rfl (lv_at hl 3 rfl) ?_
  refine lv_if_lt (tgt := 25) hx hb dX6_person_16 (by decide) (fun c_4 => ?_) (fun c_4 => ?_)
  · exact absurd c_4 (nI_pos (by omega))
  · refine lv_iload_n hx hb dX6_person_19 rfl (lv_at hl 3 rfl) ?_
    refine lv_bipush (v := (nI 8)) hx hb dX6_person_20 (by decide) ?_
    refine lv_icmp_le (tgt := 28) hx hb dX6_person_22 (by decide) (fun c_5 => ?_) (fun c_5 => ?_)
    · rcases (show jj = 0 ∨ jj = 1 ∨ jj = 2 ∨ jj = 3 ∨ jj = 4 ∨ jj = 5 ∨ jj = 6 ∨ jj = 7 ∨ jj = 8 by omega) with rfl | rfl | rfl | rfl | rfl | rfl | rfl | rfl | rfl
      · refine lv_iload_n hx hb dX6_person_28 rfl (lv_at hl 3 rfl) ?_
        refine lv_tableIn (off := 47) (tgt := 76) hx hb dX6_person_29 (by decide) (by decide) (by decide) (by decide) ?_
        refine lv_aload_n hx hb dX6_person_76 rfl (lv_at hl 0 rfl) ?_
        refine xg_get (κ := 8) (ci := 4) (C := RX4) (T := TX4) (N := 12) hx hb hts inX4 hown hK hW (O.p (O.b1 hτ) hk24) (by decide) rfl rfl 3 (by decide) (hts (.fieldLink RX6 108 "HalfTickets$Person" "where" "I") (List.mem_of_getElem? (i := 2) (by decide +kernel))) (fun _ h9 => h9) rfl dX6_person_77 ?_
        exact W.iret (v := (M (b + 1 + 2 * k + 34) 3)) hx hb hr (fun t ht hWm => ⟨⟨(M (b + 1 + 2 * k + 34) 3), M, rfl, ⟨rfl, rfl⟩, xw_end ht hW⟩, hS.F ht⟩) hS.2.2 dX6_person_80
      · refine lv_iload_n hx hb dX6_person_28 rfl (lv_at hl 3 rfl) ?_
        refine lv_tableIn (off := 52) (tgt := 81) hx hb dX6_person_29 (by decide) (by decide) (by decide) (by decide) ?_
        refine lv_aload_n hx hb dX6_person_81 rfl (lv_at hl 0 rfl) ?_
        refine xc_i (xr_V (As := []) (rest := []) (κ := 8) ⟨hx, hb, hml, hown, hts⟩ (c_X4_standsAt l O M (b + 1 + 2 * k + 34) (O.p (O.b1 hτ) hk24) htt hmm hm8 ht8) (cwV 0 hts gX6_person_X4_standsAt rfl rfl rfl (by decide +kernel) ⟨Nat.le_of_ble_eq_true rfl, Nat.le_of_ble_eq_true rfl⟩) hK hst hnw hS hW (O.p (O.b1 hτ) hk24) (by decide) rfl rfl rfl hl.1 rfl (Nat.le_of_ble_eq_true rfl) dX6_person_82 ⟨Nat.zero_le _, Nat.zero_le _⟩) hS (fun r_8 M_6 H locs hq_7 hW hS => ?_)
        obtain ⟨hq_7a, hq_7b⟩ := hq_7
        rw [hq_7b] at hW
        rw [hq_7a]
        exact W.iret (v := (zs_at M (b + 1 + 2 * k + 34))) hx hb hr (fun t ht hWm => ⟨⟨(zs_at M (b + 1 + 2 * k + 34)), M, rfl, ⟨rfl, rfl⟩, xw_end ht hW⟩, hS.F ht⟩) hS.2.2 dX6_person_85
      · refine lv_iload_n hx hb dX6_person_28 rfl (lv_at hl 3 rfl) ?_
        refine lv_tableIn (off := 57) (tgt := 86) hx hb dX6_person_29 (by decide) (by decide) (by decide) (by decide) ?_
        refine lv_aload_n hx hb dX6_person_86 rfl (lv_at hl 1 rfl) ?_
        refine xg_get (κ := 16) (ci := 6) (C := RX6) (T := TX6) (N := 6) hx hb hts inX6 hown hK hW hτ (by decide) rfl rfl 0 (by decide) (hts (.fieldLink RX6 10 "HalfTickets" "now" "LHalfTickets$Ministry;") (List.mem_of_getElem? (i := 1) (by decide +kernel))) (fun _ h9 => h9) rfl dX6_person_87 ?_
        refine lv_aload_n hx hb dX6_person_90 rfl (lv_at hl 0 rfl) ?_
        refine xc_i (xr_V (As := [.ref (b + 1 + 2 * k + 34)]) (rest := []) (κ := 1) ⟨hx, hb, hml, hown, hts⟩ (c_X2_placeInQueue l O M (b + 1) k (O.b1 hτ) hz hk) (cwV 1 hts gX6_person_X2_placeInQueue rfl rfl rfl (by decide +kernel) ⟨Nat.le_of_ble_eq_true rfl, Nat.le_of_ble_eq_true rfl⟩) hK hst hnw hS hW (O.b1 hτ) (by decide) rfl rfl rfl hl.1 rfl (Nat.le_of_ble_eq_true rfl) dX6_person_91 ⟨Nat.zero_le _, Nat.zero_le _⟩) hS (fun r_11 M_9 H locs hq_10 hW hS => ?_)
        obtain ⟨hq_10a, hq_10b⟩ := hq_10
        rw [hq_10b] at hW
        rw [hq_10a]
        exact W.iret (v := (zf_pl (b + 1) M k)) hx hb hr (fun t ht hWm => ⟨⟨(zf_pl (b + 1) M k), M, rfl, ⟨rfl, rfl⟩, xw_end ht hW⟩, hS.F ht⟩) hS.2.2 dX6_person_94
      · refine lv_iload_n hx hb dX6_person_28 rfl (lv_at hl 3 rfl) ?_
        refine lv_tableIn (off := 66) (tgt := 95) hx hb dX6_person_29 (by decide) (by decide) (by decide) (by decide) ?_
        refine lv_aload_n hx hb dX6_person_95 rfl (lv_at hl 0 rfl) ?_
        refine xg_get (κ := 8) (ci := 4) (C := RX4) (T := TX4) (N := 12) hx hb hts inX4 hown hK hW (O.p (O.b1 hτ) hk24) (by decide) rfl rfl 5 (by decide) (hts (.fieldLink RX6 137 "HalfTickets$Person" "hasHalf" "Z") (List.mem_of_getElem? (i := 3) (by decide +kernel))) (fun _ h9 => h9) rfl dX6_person_96 ?_
        refine lv_if_eq (tgt := 106) hx hb dX6_person_99 (by decide) (fun c_12 => ?_) (fun c_12 => ?_)
        · refine lv_iconst (v := (nI 0)) hx hb dX6_person_106 (by decide) ?_
          exact W.iret (v := (nI 0)) hx hb hr (fun t ht hWm => ⟨⟨(nI 0), M, rfl, ⟨(zh_p c_12).symm, rfl⟩, xw_end ht hW⟩, hS.F ht⟩) hS.2.2 dX6_person_107
        · refine lv_iconst (v := (nI 1)) hx hb dX6_person_102 (by decide) ?_
          refine lv_goto (tgt := 107) hx hb dX6_person_103 (by decide) ?_
          exact W.iret (v := (nI 1)) hx hb hr (fun t ht hWm => ⟨⟨(nI 1), M, rfl, ⟨(zh_n c_12).symm, rfl⟩, xw_end ht hW⟩, hS.F ht⟩) hS.2.2 dX6_person_107
      · refine lv_iload_n hx hb dX6_person_28 rfl (lv_at hl 3 rfl) ?_
        refine lv_tableIn (off := 79) (tgt := 108) hx hb dX6_person_29 (by decide) (by decide) (by decide) (by decide) ?_
        refine lv_aload_n hx hb dX6_person_108 rfl (lv_at hl 0 rfl) ?_
        refine xg_get (κ := 8) (ci := 4) (C := RX4) (T := TX4) (N := 12) hx hb hts inX4 hown hK hW (O.p (O.b1 hτ) hk24) (by decide) rfl rfl 4 (by decide) (hts (.fieldLink RX6 120 "HalfTickets$Person" "through" "I") (List.mem_of_getElem? (i := 4) (by decide +kernel))) (fun _ h9 => h9) rfl dX6_person_109 ?_
        exact W.iret (v := (M (b + 1 + 2 * k + 34) 4)) hx hb hr (fun t ht hWm => ⟨⟨(M (b + 1 + 2 * k + 34) 4), M, rfl, ⟨rfl, rfl⟩, xw_end ht hW⟩, hS.F ht⟩) hS.2.2 dX6_person_112
      · refine lv_iload_n hx hb dX6_person_28 rfl (lv_at hl 3 rfl) ?_
        refine lv_tableIn (off := 84) (tgt := 113) hx hb dX6_person_29 (by decide) (by decide) (by decide) (by decide) ?_
        refine lv_aload_n hx hb dX6_person_113 rfl (lv_at hl 0 rfl) ?_
        refine xg_get (κ := 8) (ci := 4) (C := RX4) (T := TX4) (N := 12) hx hb hts inX4 hown hK hW (O.p (O.b1 hτ) hk24) (by decide) rfl rfl 2 (by decide) (hts (.fieldLink RX6 140 "HalfTickets$Person" "errandLength" "I") (List.mem_of_getElem? (i := 5) (by decide +kernel))) (fun _ h9 => h9) rfl dX6_person_114 ?_
        exact W.iret (v := (M (b + 1 + 2 * k + 34) 2)) hx hb hr (fun t ht hWm => ⟨⟨(M (b + 1 + 2 * k + 34) 2), M, rfl, ⟨rfl, rfl⟩, xw_end ht hW⟩, hS.F ht⟩) hS.2.2 dX6_person_117
      · refine lv_iload_n hx hb dX6_person_28 rfl (lv_at hl 3 rfl) ?_
        refine lv_tableIn (off := 89) (tgt := 118) hx hb dX6_person_29 (by decide) (by decide) (by decide) (by decide) ?_
        refine lv_aload_n hx hb dX6_person_118 rfl (lv_at hl 0 rfl) ?_
        refine xg_get (κ := 8) (ci := 4) (C := RX4) (T := TX4) (N := 12) hx hb hts inX4 hown hK hW (O.p (O.b1 hτ) hk24) (by decide) rfl rfl 7 (by decide) (hts (.fieldLink RX6 143 "HalfTickets$Person" "waits" "I") (List.mem_of_getElem? (i := 6) (by decide +kernel))) (fun _ h9 => h9) rfl dX6_person_119 ?_
        exact W.iret (v := (M (b + 1 + 2 * k + 34) 7)) hx hb hr (fun t ht hWm => ⟨⟨(M (b + 1 + 2 * k + 34) 7), M, rfl, ⟨rfl, rfl⟩, xw_end ht hW⟩, hS.F ht⟩) hS.2.2 dX6_person_122
      · refine lv_iload_n hx hb dX6_person_28 rfl (lv_at hl 3 rfl) ?_
        refine lv_tableIn (off := 94) (tgt := 123) hx hb dX6_person_29 (by decide) (by decide) (by decide) (by decide) ?_
        refine lv_aload_n hx hb dX6_person_123 rfl (lv_at hl 0 rfl) ?_
        refine xg_get (κ := 8) (ci := 4) (C := RX4) (T := TX4) (N := 12) hx hb hts inX4 hown hK hW (O.p (O.b1 hτ) hk24) (by decide) rfl rfl 9 (by decide) (hts (.fieldLink RX6 146 "HalfTickets$Person" "sentBack" "I") (List.mem_of_getElem? (i := 7) (by decide +kernel))) (fun _ h9 => h9) rfl dX6_person_124 ?_
        exact W.iret (v := (M (b + 1 + 2 * k + 34) 9)) hx hb hr (fun t ht hWm => ⟨⟨(M (b + 1 + 2 * k + 34) 9), M, rfl, ⟨rfl, rfl⟩, xw_end ht hW⟩, hS.F ht⟩) hS.2.2 dX6_person_127
      · refine lv_iload_n hx hb dX6_person_28 rfl (lv_at hl 3 rfl) ?_
        refine lv_tableOut (tgt := 128) hx hb dX6_person_29 (by decide) (by decide) ?_
        refine lv_aload_n hx hb dX6_person_128 rfl (lv_at hl 0 rfl) ?_
        refine xg_get (κ := 8) (ci := 4) (C := RX4) (T := TX4) (N := 12) hx hb hts inX4 hown hK hW (O.p (O.b1 hτ) hk24) (by decide) rfl rfl 10 (by decide) (hts (.fieldLink RX6 149 "HalfTickets$Person" "goneBehind" "I") (List.mem_of_getElem? (i := 8) (by decide +kernel))) (fun _ h9 => h9) rfl dX6_person_129 ?_
        exact W.iret (v := (M (b + 1 + 2 * k + 34) 10)) hx hb hr (fun t ht hWm => ⟨⟨(M (b + 1 + 2 * k + 34) 10), M, rfl, ⟨rfl, rfl⟩, xw_end ht hW⟩, hS.F ht⟩) hS.2.2 dX6_person_132
    · exact absurd (nI_le (show jj ≤ 8 by omega) (by omega)) c_5

set_option maxHeartbeats 4000000 in
set_option maxRecDepth 100000 in
/-- person(k, j): nobody -/
theorem cz_person_n (l : Launch) {G : va_G} {g : Nat → ClassId} {t0 τ : Nat → Nat} {A : Nat → Prop} (O : xk_O τ A) (M : xm_T) (b : Nat) (hτ : τ b = 16) {nn TT GG BB : Nat} (hz : zi (b + 1) M nn TT GG BB) (y : Int32) : Met l yX6_person wsX6_person ({ frames := 5, cells := 0, slots := 0, locals := 160 }) (va_Pc [.ref b, .int (nI nn), .int y] (xS_t G g t0 τ A M)) (va_Qi (fun r M' => r = -1 ∧ M' = M) (fun M' t => xw_D G g τ M' t.heap) A) 0 0 A := by
  refine Met.ofW (cc := cX6_person) (maxL := 4) (ret := (some .int)) (by decide) rfl ?_
  intro p e s m args below meth c s₁ B hml hv
  obtain ⟨rfl, hW, hK, hst, hnw⟩ := hv
  have hx := B.exec
  have hb := B.bytes
  have hr := B.returns
  have hts := atoms_spec (ws := wsX6_person) B.pre
  have hown : s.vm.findClass RX6 = some m.cls := findClass_of_methodNamed B.named
  have hlocks := B.notSynchronized
  have hS : va_S A s.heap s.heap [] := va_S.rf
  have inX4 : ∀ w ∈ u_ws RX4 TX4 12, w ∈ wsX6_person := by decide +kernel
  have inX6 : ∀ w ∈ u_ws RX6 TX6 6, w ∈ wsX6_person := by decide +kernel
  have hl := lv_entry ([.ref b, .int (nI nn), .int y]) (n := 4) (Nat.le_of_ble_eq_true rfl)
  rw [lg_entry_eq]
  generalize (lg_sl ([.ref b, .int (nI nn), .int y]) ++ List.replicate (4 - (lg_sl ([.ref b, .int (nI nn), .int y])).length) Slot.unset).toArray = ls at hl ⊢
  have hl : lv_has ls 4 [(0, .ref b), (1, .int (nI nn)), (2, .int y)] := hl
  refine lv_aload_n hx hb dX6_person_0 rfl (lv_at hl 0 rfl) ?_
  refine xg_get (κ := 16) (ci := 6) (C := RX6) (T := TX6) (N := 6) hx hb hts inX6 hown hK hW hτ (by decide) rfl rfl 0 (by decide) (hts (.fieldLink RX6 10 "HalfTickets" "now" "LHalfTickets$Ministry;") (List.mem_of_getElem? (i := 1) (by decide +kernel))) (fun _ h9 => h9) rfl dX6_person_1 ?_
  refine lv_iload_n hx hb dX6_person_4 rfl (lv_at hl 1 rfl) ?_
  refine xc_q (xr_V (As := [.int (nI nn)]) (rest := []) (κ := 1) ⟨hx, hb, hml, hown, hts⟩ (c_X2_personAt l O M (b + 1) (O.b1 hτ) (nI nn)) (cwV 1 hts gX6_person_X2_personAt rfl rfl rfl (by decide +kernel) ⟨Nat.le_of_ble_eq_true rfl, Nat.le_of_ble_eq_true rfl⟩) hK hst hnw hS hW (O.b1 hτ) (by decide) rfl rfl rfl hl.1 rfl (Nat.le_of_ble_eq_true rfl) dX6_person_5 ⟨Nat.zero_le _, Nat.zero_le _⟩) hS (fun r_3 M_1 H locs hq_2 hW hS => ?_)
  obtain ⟨hq_2a, hq_2b⟩ := hq_2
  rw [hq_2b] at hW
  rw [hq_2a]
  rw [xf_per_n hz.1.2.1 (Nat.le_refl nn) (by have := hz.n; omega)]
  refine W.eq (g2 := F0 m 8 ls [.null]) rfl ?_
  refine lv_astore_nN (lv' := [(3, .null), (0, .ref b), (1, .int (nI nn)), (2, .int y)]) hx hb dX6_person_8 rfl hl (by decide) rfl (fun ls hl => ?_)
  refine lv_aload_nN hx hb dX6_person_9 rfl (lv_at hl 0 rfl) ?_
  refine lv_ifnonnullN hx hb dX6_person_10 ?_
  refine lv_iconst (v := (-1)) hx hb dX6_person_13 (by decide) ?_
  exact W.iret (v := (-1)) hx hb hr (fun t ht hWm => ⟨⟨(-1), M, rfl, ⟨rfl, rfl⟩, xw_end ht hW⟩, hS.F ht⟩) hS.2.2 dX6_person_14

set_option maxHeartbeats 4000000 in
set_option maxRecDepth 100000 in
/-- windowOf(w, j) -/
theorem cz_windowOf (l : Launch) {G : va_G} {g : Nat → ClassId} {t0 τ : Nat → Nat} {A : Nat → Prop} (O : xk_O τ A) (M : xm_T) (b : Nat) (hτ : τ b = 16) {w jj : Nat} (hw : w < 6) (hj : jj < 7) : Met l yX6_windowOf wsX6_windowOf ({ frames := 5, cells := 0, slots := 0, locals := 160 }) (va_Pc [.ref b, .int (nI w), .int (nI jj)] (xS_t G g t0 τ A M)) (va_Qi (fun r M' => r = zf_wi (b + 1) M w jj ∧ M' = M) (fun M' t => xw_D G g τ M' t.heap) A) 0 0 A := by
  refine Met.ofW (cc := cX6_windowOf) (maxL := 4) (ret := (some .int)) (by decide) rfl ?_
  intro p e s m args below meth c s₁ B hml hv
  obtain ⟨rfl, hW, hK, hst, hnw⟩ := hv
  have hx := B.exec
  have hb := B.bytes
  have hr := B.returns
  have hts := atoms_spec (ws := wsX6_windowOf) B.pre
  have hown : s.vm.findClass RX6 = some m.cls := findClass_of_methodNamed B.named
  have hlocks := B.notSynchronized
  have hS : va_S A s.heap s.heap [] := va_S.rf
  have inX5 : ∀ w ∈ u_ws RX5 TX5 7, w ∈ wsX6_windowOf := by decide +kernel
  have inX6 : ∀ w ∈ u_ws RX6 TX6 6, w ∈ wsX6_windowOf := by decide +kernel
  have hl := lv_entry ([.ref b, .int (nI w), .int (nI jj)]) (n := 4) (Nat.le_of_ble_eq_true rfl)
  rw [lg_entry_eq]
  generalize (lg_sl ([.ref b, .int (nI w), .int (nI jj)]) ++ List.replicate (4 - (lg_sl ([.ref b, .int (nI w), .int (nI jj)])).length) Slot.unset).toArray = ls at hl ⊢
  have hl : lv_has ls 4 [(0, .ref b), (1, .int (nI w)), (2, .int (nI jj))] := hl
  refine lv_aload_n hx hb dX6_windowOf_0 rfl (lv_at hl 0 rfl) ?_
  refine xg_get (κ := 16) (ci := 6) (C := RX6) (T := TX6) (N := 6) hx hb hts inX6 hown hK hW hτ (by decide) rfl rfl 0 (by decide) (hts (.fieldLink RX6 10 "HalfTickets" "now" "LHalfTickets$Ministry;") (List.mem_of_getElem? (i := 1) (by decide +kernel))) (fun _ h9 => h9) rfl dX6_windowOf_1 ?_
  refine lv_iload_n hx hb dX6_windowOf_4 rfl (lv_at hl 1 rfl) ?_
  refine xc_q (xr_V (As := [.int (nI w)]) (rest := []) (κ := 1) ⟨hx, hb, hml, hown, hts⟩ (c_X2_windowAt l O M (b + 1) (O.b1 hτ) (nI w)) (cwV 1 hts gX6_windowOf_X2_windowAt rfl rfl rfl (by decide +kernel) ⟨Nat.le_of_ble_eq_true rfl, Nat.le_of_ble_eq_true rfl⟩) hK hst hnw hS hW (O.b1 hτ) (by decide) rfl rfl rfl hl.1 rfl (Nat.le_of_ble_eq_true rfl) dX6_windowOf_5 ⟨Nat.zero_le _, Nat.zero_le _⟩) hS (fun r_3 M_1 H locs hq_2 hW hS => ?_)
  obtain ⟨hq_2a, hq_2b⟩ := hq_2
  rw [hq_2b] at hW
  rw [hq_2a]
  rw [xf_win_s (b + 1) hw]
  refine W.eq (g2 := F0 m 8 ls [.ref (b + 1 + 5 * w + 4)]) rfl ?_
  refine lv_astore_n (lv' := [(3, .ref (b + 1 + 5 * w + 4)), (0, .ref b), (1, .int (nI w)), (2, .int (nI jj))]) hx hb dX6_windowOf_8 rfl hl (by decide) rfl (fun ls hl => ?_)
  refine lv_aload_n hx hb dX6_windowOf_9 rfl (lv_at hl 0 rfl) ?_
  refine lv_ifnonnull (tgt := 15) hx hb dX6_windowOf_10 (by decide) ?_
  refine lv_iload_n hx hb dX6_windowOf_15 rfl (lv_at hl 3 rfl) ?_
  refine lv_if_lt (tgt := 25) hx hb dX6_windowOf_16 (by decide) (fun c_4 => ?_) (fun c_4 => ?_)
  · exact absurd c_4 (nI_pos (by omega))
  · refine lv_iload_n hx hb dX6_windowOf_19 rfl (lv_at hl 3 rfl) ?_
    refine lv_bipush (v := (nI 6)) hx hb dX6_windowOf_20 (by decide) ?_
    refine lv_icmp_le (tgt := 28) hx hb dX6_windowOf_22 (by decide) (fun c_5 => ?_) (fun c_5 => ?_)
    · rcases (show jj = 0 ∨ jj = 1 ∨ jj = 2 ∨ jj = 3 ∨ jj = 4 ∨ jj = 5 ∨ jj = 6 by omega) with rfl | rfl | rfl | rfl | rfl | rfl | rfl
      · refine lv_iload_n hx hb dX6_windowOf_28 rfl (lv_at hl 3 rfl) ?_
        refine lv_tableIn (off := 39) (tgt := 68) hx hb dX6_windowOf_29 (by decide) (by decide) (by decide) (by decide) ?_
        refine lv_aload_n hx hb dX6_windowOf_68 rfl (lv_at hl 0 rfl) ?_
        refine xg_get (κ := 5) (ci := 5) (C := RX5) (T := TX5) (N := 7) hx hb hts inX5 hown hK hW (O.w (O.b1 hτ) hw) (by decide) rfl rfl 0 (by decide) (hts (.fieldLink RX6 62 "HalfTickets$Window" "isOpen" "Z") (List.mem_of_getElem? (i := 2) (by decide +kernel))) (fun _ h9 => h9) rfl dX6_windowOf_69 ?_
        refine lv_if_eq (tgt := 79) hx hb dX6_windowOf_72 (by decide) (fun c_6 => ?_) (fun c_6 => ?_)
        · refine lv_iconst (v := (nI 0)) hx hb dX6_windowOf_79 (by decide) ?_
          exact W.iret (v := (nI 0)) hx hb hr (fun t ht hWm => ⟨⟨(nI 0), M, rfl, ⟨(zh_p c_6).symm, rfl⟩, xw_end ht hW⟩, hS.F ht⟩) hS.2.2 dX6_windowOf_80
        · refine lv_iconst (v := (nI 1)) hx hb dX6_windowOf_75 (by decide) ?_
          refine lv_goto (tgt := 80) hx hb dX6_windowOf_76 (by decide) ?_
          exact W.iret (v := (nI 1)) hx hb hr (fun t ht hWm => ⟨⟨(nI 1), M, rfl, ⟨(zh_n c_6).symm, rfl⟩, xw_end ht hW⟩, hS.F ht⟩) hS.2.2 dX6_windowOf_80
      · refine lv_iload_n hx hb dX6_windowOf_28 rfl (lv_at hl 3 rfl) ?_
        refine lv_tableIn (off := 52) (tgt := 81) hx hb dX6_windowOf_29 (by decide) (by decide) (by decide) (by decide) ?_
        refine lv_aload_n hx hb dX6_windowOf_81 rfl (lv_at hl 0 rfl) ?_
        refine xg_get (κ := 5) (ci := 5) (C := RX5) (T := TX5) (N := 7) hx hb hts inX5 hown hK hW (O.w (O.b1 hτ) hw) (by decide) rfl rfl 1 (by decide) (hts (.fieldLink RX6 72 "HalfTickets$Window" "clerks" "I") (List.mem_of_getElem? (i := 3) (by decide +kernel))) (fun _ h9 => h9) rfl dX6_windowOf_82 ?_
        exact W.iret (v := (M (b + 1 + 5 * w + 4) 1)) hx hb hr (fun t ht hWm => ⟨⟨(M (b + 1 + 5 * w + 4) 1), M, rfl, ⟨rfl, rfl⟩, xw_end ht hW⟩, hS.F ht⟩) hS.2.2 dX6_windowOf_85
      · refine lv_iload_n hx hb dX6_windowOf_28 rfl (lv_at hl 3 rfl) ?_
        refine lv_tableIn (off := 57) (tgt := 86) hx hb dX6_windowOf_29 (by decide) (by decide) (by decide) (by decide) ?_
        refine lv_aload_n hx hb dX6_windowOf_86 rfl (lv_at hl 0 rfl) ?_
        refine xg_get (κ := 5) (ci := 5) (C := RX5) (T := TX5) (N := 7) hx hb hts inX5 hown hK hW (O.w (O.b1 hτ) hw) (by decide) rfl rfl 2 (by decide) (hts (.fieldLink RX6 76 "HalfTickets$Window" "halves" "I") (List.mem_of_getElem? (i := 4) (by decide +kernel))) (fun _ h9 => h9) rfl dX6_windowOf_87 ?_
        exact W.iret (v := (M (b + 1 + 5 * w + 4) 2)) hx hb hr (fun t ht hWm => ⟨⟨(M (b + 1 + 5 * w + 4) 2), M, rfl, ⟨rfl, rfl⟩, xw_end ht hW⟩, hS.F ht⟩) hS.2.2 dX6_windowOf_90
      · refine lv_iload_n hx hb dX6_windowOf_28 rfl (lv_at hl 3 rfl) ?_
        refine lv_tableIn (off := 62) (tgt := 91) hx hb dX6_windowOf_29 (by decide) (by decide) (by decide) (by decide) ?_
        refine lv_aload_n hx hb dX6_windowOf_91 rfl (lv_at hl 0 rfl) ?_
        refine xg_get (κ := 5) (ci := 5) (C := RX5) (T := TX5) (N := 7) hx hb hts inX5 hown hK hW (O.w (O.b1 hτ) hw) (by decide) rfl rfl 5 (by decide) (hts (.fieldLink RX6 152 "HalfTickets$Window" "queue" "LHalfTickets$Line;") (List.mem_of_getElem? (i := 5) (by decide +kernel))) (fun _ h9 => h9) rfl dX6_windowOf_92 ?_
        refine xc_i (xr_V (As := []) (rest := []) (κ := 6) ⟨hx, hb, hml, hown, hts⟩ (c_X1_length l O M (b + 1 + 5 * w + 5) (O.q (O.w (O.b1 hτ) hw))) (cwV 0 hts gX6_windowOf_X1_length rfl rfl rfl (by decide +kernel) ⟨Nat.le_of_ble_eq_true rfl, Nat.le_of_ble_eq_true rfl⟩) hK hst hnw hS hW (O.q (O.w (O.b1 hτ) hw)) (by decide) rfl rfl rfl hl.1 rfl (Nat.le_of_ble_eq_true rfl) dX6_windowOf_95 ⟨Nat.zero_le _, Nat.zero_le _⟩) hS (fun r_9 M_7 H locs hq_8 hW hS => ?_)
        obtain ⟨hq_8a, hq_8b⟩ := hq_8
        rw [hq_8b] at hW
        rw [hq_8a]
        exact W.iret (v := (M (b + 1 + 5 * w + 5) 1)) hx hb hr (fun t ht hWm => ⟨⟨(M (b + 1 + 5 * w + 5) 1), M, rfl, ⟨rfl, rfl⟩, xw_end ht hW⟩, hS.F ht⟩) hS.2.2 dX6_windowOf_98
      · refine lv_iload_n hx hb dX6_windowOf_28 rfl (lv_at hl 3 rfl) ?_
        refine lv_tableIn (off := 70) (tgt := 99) hx hb dX6_windowOf_29 (by decide) (by decide) (by decide) (by decide) ?_
        refine lv_aload_n hx hb dX6_windowOf_99 rfl (lv_at hl 0 rfl) ?_
        refine xg_get (κ := 5) (ci := 5) (C := RX5) (T := TX5) (N := 7) hx hb hts inX5 hown hK hW (O.w (O.b1 hτ) hw) (by decide) rfl rfl 6 (by decide) (hts (.fieldLink RX6 161 "HalfTickets$Window" "serving" "LHalfTickets$Line;") (List.mem_of_getElem? (i := 6) (by decide +kernel))) (fun _ h9 => h9) rfl dX6_windowOf_100 ?_
        refine xc_i (xr_V (As := []) (rest := []) (κ := 6) ⟨hx, hb, hml, hown, hts⟩ (c_X1_length l O M (b + 1 + 5 * w + 7) (O.r (O.w (O.b1 hτ) hw))) (cwV 0 hts gX6_windowOf_X1_length rfl rfl rfl (by decide +kernel) ⟨Nat.le_of_ble_eq_true rfl, Nat.le_of_ble_eq_true rfl⟩) hK hst hnw hS hW (O.r (O.w (O.b1 hτ) hw)) (by decide) rfl rfl rfl hl.1 rfl (Nat.le_of_ble_eq_true rfl) dX6_windowOf_103 ⟨Nat.zero_le _, Nat.zero_le _⟩) hS (fun r_12 M_10 H locs hq_11 hW hS => ?_)
        obtain ⟨hq_11a, hq_11b⟩ := hq_11
        rw [hq_11b] at hW
        rw [hq_11a]
        exact W.iret (v := (M (b + 1 + 5 * w + 7) 1)) hx hb hr (fun t ht hWm => ⟨⟨(M (b + 1 + 5 * w + 7) 1), M, rfl, ⟨rfl, rfl⟩, xw_end ht hW⟩, hS.F ht⟩) hS.2.2 dX6_windowOf_106
      · refine lv_iload_n hx hb dX6_windowOf_28 rfl (lv_at hl 3 rfl) ?_
        refine lv_tableIn (off := 78) (tgt := 107) hx hb dX6_windowOf_29 (by decide) (by decide) (by decide) (by decide) ?_
        refine lv_aload_n hx hb dX6_windowOf_107 rfl (lv_at hl 0 rfl) ?_
        refine xg_get (κ := 5) (ci := 5) (C := RX5) (T := TX5) (N := 7) hx hb hts inX5 hown hK hW (O.w (O.b1 hτ) hw) (by decide) rfl rfl 3 (by decide) (hts (.fieldLink RX6 164 "HalfTickets$Window" "servings" "I") (List.mem_of_getElem? (i := 7) (by decide +kernel))) (fun _ h9 => h9) rfl dX6_windowOf_108 ?_
        exact W.iret (v := (M (b + 1 + 5 * w + 4) 3)) hx hb hr (fun t ht hWm => ⟨⟨(M (b + 1 + 5 * w + 4) 3), M, rfl, ⟨rfl, rfl⟩, xw_end ht hW⟩, hS.F ht⟩) hS.2.2 dX6_windowOf_111
      · refine lv_iload_n hx hb dX6_windowOf_28 rfl (lv_at hl 3 rfl) ?_
        refine lv_tableOut (tgt := 112) hx hb dX6_windowOf_29 (by decide) (by decide) ?_
        refine lv_aload_n hx hb dX6_windowOf_112 rfl (lv_at hl 0 rfl) ?_
        refine xg_get (κ := 5) (ci := 5) (C := RX5) (T := TX5) (N := 7) hx hb hts inX5 hown hK hW (O.w (O.b1 hτ) hw) (by decide) rfl rfl 4 (by decide) (hts (.fieldLink RX6 167 "HalfTickets$Window" "sentBack" "I") (List.mem_of_getElem? (i := 8) (by decide +kernel))) (fun _ h9 => h9) rfl dX6_windowOf_113 ?_
        exact W.iret (v := (M (b + 1 + 5 * w + 4) 4)) hx hb hr (fun t ht hWm => ⟨⟨(M (b + 1 + 5 * w + 4) 4), M, rfl, ⟨rfl, rfl⟩, xw_end ht hW⟩, hS.F ht⟩) hS.2.2 dX6_windowOf_116
    · exact absurd (nI_le (show jj ≤ 6 by omega) (by omega)) c_5

set_option maxHeartbeats 4000000 in
set_option maxRecDepth 100000 in
/-- count(j) -/
theorem cz_count (l : Launch) {G : va_G} {g : Nat → ClassId} {t0 τ : Nat → Nat} {A : Nat → Prop} (O : xk_O τ A) (M : xm_T) (b : Nat) (hτ : τ b = 16) {jj : Nat} (hj : jj < 15) : Met l yX6_count wsX6_count ({ frames := 5, cells := 0, slots := 0, locals := 160 }) (va_Pc [.ref b, .int (nI jj)] (xS_t G g t0 τ A M)) (va_Qi (fun r M' => r = zf_co (b + 1) M jj ∧ M' = M) (fun M' t => xw_D G g τ M' t.heap) A) 0 0 A := by
  refine Met.ofW (cc := cX6_count) (maxL := 2) (ret := (some .int)) (by decide) rfl ?_
  intro p e s m args below meth c s₁ B hml hv
  obtain ⟨rfl, hW, hK, hst, hnw⟩ := hv
  have hx := B.exec
  have hb := B.bytes
  have hr := B.returns
  have hts := atoms_spec (ws := wsX6_count) B.pre
  have hown : s.vm.findClass RX6 = some m.cls := findClass_of_methodNamed B.named
  have hlocks := B.notSynchronized
  have hS : va_S A s.heap s.heap [] := va_S.rf
  have inX2 : ∀ w ∈ u_ws RX2 TX2 7, w ∈ wsX6_count := by decide +kernel
  have inX6 : ∀ w ∈ u_ws RX6 TX6 6, w ∈ wsX6_count := by decide +kernel
  have hl := lv_entry ([.ref b, .int (nI jj)]) (n := 2) (Nat.le_of_ble_eq_true rfl)
  rw [lg_entry_eq]
  generalize (lg_sl ([.ref b, .int (nI jj)]) ++ List.replicate (2 - (lg_sl ([.ref b, .int (nI jj)])).length) Slot.unset).toArray = ls at hl ⊢
  have hl : lv_has ls 2 [(0, .ref b), (1, .int (nI jj))] := hl
  rcases (show jj = 0 ∨ jj = 1 ∨ jj = 2 ∨ jj = 3 ∨ jj = 4 ∨ jj = 5 ∨ jj = 6 ∨ jj = 7 ∨ jj = 8 ∨ jj = 9 ∨ jj = 10 ∨ jj = 11 ∨ jj = 12 ∨ jj = 13 ∨ jj = 14 by omega) with rfl | rfl | rfl | rfl | rfl | rfl | rfl | rfl | rfl | rfl | rfl | rfl | rfl | rfl | rfl
  · refine lv_iload_n hx hb dX6_count_0 rfl (lv_at hl 1 rfl) ?_
    refine lv_tableIn (off := 83) (tgt := 84) hx hb dX6_count_1 (by decide) (by decide) (by decide) (by decide) ?_
    refine lv_aload_n hx hb dX6_count_84 rfl (lv_at hl 0 rfl) ?_
    refine xg_get (κ := 16) (ci := 6) (C := RX6) (T := TX6) (N := 6) hx hb hts inX6 hown hK hW hτ (by decide) rfl rfl 0 (by decide) (hts (.fieldLink RX6 10 "HalfTickets" "now" "LHalfTickets$Ministry;") (List.mem_of_getElem? (i := 1) (by decide +kernel))) (fun _ h9 => h9) rfl dX6_count_85 ?_
    refine xg_get (κ := 1) (ci := 2) (C := RX2) (T := TX2) (N := 7) hx hb hts inX2 hown hK hW (O.b1 hτ) (by decide) rfl rfl 0 (by decide) (hts (.fieldLink RX6 55 "HalfTickets$Ministry" "settings" "[I") (List.mem_of_getElem? (i := 2) (by decide +kernel))) (fun _ h9 => h9) rfl dX6_count_88 ?_
    refine lv_iload_n hx hb dX6_count_91 rfl (lv_at hl 1 rfl) ?_
    refine xg_iald (κ := 103) (n := 3) hx hb hK hW (O.m1 (O.b1 hτ)) (by decide) rfl 0 rfl (by decide) (by decide) dX6_count_92 ?_
    exact W.iret (v := (M (b + 2) 0)) hx hb hr (fun t ht hWm => ⟨⟨(M (b + 2) 0), M, rfl, ⟨rfl, rfl⟩, xw_end ht hW⟩, hS.F ht⟩) hS.2.2 dX6_count_93
  · refine lv_iload_n hx hb dX6_count_0 rfl (lv_at hl 1 rfl) ?_
    refine lv_tableIn (off := 83) (tgt := 84) hx hb dX6_count_1 (by decide) (by decide) (by decide) (by decide) ?_
    refine lv_aload_n hx hb dX6_count_84 rfl (lv_at hl 0 rfl) ?_
    refine xg_get (κ := 16) (ci := 6) (C := RX6) (T := TX6) (N := 6) hx hb hts inX6 hown hK hW hτ (by decide) rfl rfl 0 (by decide) (hts (.fieldLink RX6 10 "HalfTickets" "now" "LHalfTickets$Ministry;") (List.mem_of_getElem? (i := 1) (by decide +kernel))) (fun _ h9 => h9) rfl dX6_count_85 ?_
    refine xg_get (κ := 1) (ci := 2) (C := RX2) (T := TX2) (N := 7) hx hb hts inX2 hown hK hW (O.b1 hτ) (by decide) rfl rfl 0 (by decide) (hts (.fieldLink RX6 55 "HalfTickets$Ministry" "settings" "[I") (List.mem_of_getElem? (i := 2) (by decide +kernel))) (fun _ h9 => h9) rfl dX6_count_88 ?_
    refine lv_iload_n hx hb dX6_count_91 rfl (lv_at hl 1 rfl) ?_
    refine xg_iald (κ := 103) (n := 3) hx hb hK hW (O.m1 (O.b1 hτ)) (by decide) rfl 1 rfl (by decide) (by decide) dX6_count_92 ?_
    exact W.iret (v := (M (b + 2) 1)) hx hb hr (fun t ht hWm => ⟨⟨(M (b + 2) 1), M, rfl, ⟨rfl, rfl⟩, xw_end ht hW⟩, hS.F ht⟩) hS.2.2 dX6_count_93
  · refine lv_iload_n hx hb dX6_count_0 rfl (lv_at hl 1 rfl) ?_
    refine lv_tableIn (off := 83) (tgt := 84) hx hb dX6_count_1 (by decide) (by decide) (by decide) (by decide) ?_
    refine lv_aload_n hx hb dX6_count_84 rfl (lv_at hl 0 rfl) ?_
    refine xg_get (κ := 16) (ci := 6) (C := RX6) (T := TX6) (N := 6) hx hb hts inX6 hown hK hW hτ (by decide) rfl rfl 0 (by decide) (hts (.fieldLink RX6 10 "HalfTickets" "now" "LHalfTickets$Ministry;") (List.mem_of_getElem? (i := 1) (by decide +kernel))) (fun _ h9 => h9) rfl dX6_count_85 ?_
    refine xg_get (κ := 1) (ci := 2) (C := RX2) (T := TX2) (N := 7) hx hb hts inX2 hown hK hW (O.b1 hτ) (by decide) rfl rfl 0 (by decide) (hts (.fieldLink RX6 55 "HalfTickets$Ministry" "settings" "[I") (List.mem_of_getElem? (i := 2) (by decide +kernel))) (fun _ h9 => h9) rfl dX6_count_88 ?_
    refine lv_iload_n hx hb dX6_count_91 rfl (lv_at hl 1 rfl) ?_
    refine xg_iald (κ := 103) (n := 3) hx hb hK hW (O.m1 (O.b1 hτ)) (by decide) rfl 2 rfl (by decide) (by decide) dX6_count_92 ?_
    exact W.iret (v := (M (b + 2) 2)) hx hb hr (fun t ht hWm => ⟨⟨(M (b + 2) 2), M, rfl, ⟨rfl, rfl⟩, xw_end ht hW⟩, hS.F ht⟩) hS.2.2 dX6_count_93
  · refine lv_iload_n hx hb dX6_count_0 rfl (lv_at hl 1 rfl) ?_
    refine lv_tableIn (off := 93) (tgt := 94) hx hb dX6_count_1 (by decide) (by decide) (by decide) (by decide) ?_
    refine lv_aload_n hx hb dX6_count_94 rfl (lv_at hl 0 rfl) ?_
    refine xg_get (κ := 16) (ci := 6) (C := RX6) (T := TX6) (N := 6) hx hb hts inX6 hown hK hW hτ (by decide) rfl rfl 0 (by decide) (hts (.fieldLink RX6 10 "HalfTickets" "now" "LHalfTickets$Ministry;") (List.mem_of_getElem? (i := 1) (by decide +kernel))) (fun _ h9 => h9) rfl dX6_count_95 ?_
    refine xg_get (κ := 1) (ci := 2) (C := RX2) (T := TX2) (N := 7) hx hb hts inX2 hown hK hW (O.b1 hτ) (by decide) rfl rfl 4 (by decide) (hts (.fieldLink RX6 113 "HalfTickets$Ministry" "ticks" "I") (List.mem_of_getElem? (i := 3) (by decide +kernel))) (fun _ h9 => h9) rfl dX6_count_98 ?_
    exact W.iret (v := (M (b + 1) 4)) hx hb hr (fun t ht hWm => ⟨⟨(M (b + 1) 4), M, rfl, ⟨rfl, rfl⟩, xw_end ht hW⟩, hS.F ht⟩) hS.2.2 dX6_count_101
  · refine lv_iload_n hx hb dX6_count_0 rfl (lv_at hl 1 rfl) ?_
    refine lv_tableIn (off := 101) (tgt := 102) hx hb dX6_count_1 (by decide) (by decide) (by decide) (by decide) ?_
    refine lv_aload_n hx hb dX6_count_102 rfl (lv_at hl 0 rfl) ?_
    refine xg_get (κ := 16) (ci := 6) (C := RX6) (T := TX6) (N := 6) hx hb hts inX6 hown hK hW hτ (by decide) rfl rfl 0 (by decide) (hts (.fieldLink RX6 10 "HalfTickets" "now" "LHalfTickets$Ministry;") (List.mem_of_getElem? (i := 1) (by decide +kernel))) (fun _ h9 => h9) rfl dX6_count_103 ?_
    refine xg_get (κ := 1) (ci := 2) (C := RX2) (T := TX2) (N := 7) hx hb hts inX2 hown hK hW (O.b1 hτ) (by decide) rfl rfl 3 (by decide) (hts (.fieldLink RX6 91 "HalfTickets$Ministry" "people" "I") (List.mem_of_getElem? (i := 4) (by decide +kernel))) (fun _ h9 => h9) rfl dX6_count_106 ?_
    exact W.iret (v := (M (b + 1) 3)) hx hb hr (fun t ht hWm => ⟨⟨(M (b + 1) 3), M, rfl, ⟨rfl, rfl⟩, xw_end ht hW⟩, hS.F ht⟩) hS.2.2 dX6_count_109
  · refine lv_iload_n hx hb dX6_count_0 rfl (lv_at hl 1 rfl) ?_
    refine lv_tableIn (off := 109) (tgt := 110) hx hb dX6_count_1 (by decide) (by decide) (by decide) (by decide) ?_
    refine lv_aload_n hx hb dX6_count_110 rfl (lv_at hl 0 rfl) ?_
    refine xg_get (κ := 16) (ci := 6) (C := RX6) (T := TX6) (N := 6) hx hb hts inX6 hown hK hW hτ (by decide) rfl rfl 0 (by decide) (hts (.fieldLink RX6 10 "HalfTickets" "now" "LHalfTickets$Ministry;") (List.mem_of_getElem? (i := 1) (by decide +kernel))) (fun _ h9 => h9) rfl dX6_count_111 ?_
    refine lv_iconst (v := (nI 0)) hx hb dX6_count_114 (by decide) ?_
    refine xc_i (xr_V (As := [.int (nI 0)]) (rest := []) (κ := 1) ⟨hx, hb, hml, hown, hts⟩ (c_X2_peopleWho l O M (b + 1) (O.b1 hτ) (nI 0)) (cwV 1 hts gX6_count_X2_peopleWho rfl rfl rfl (by decide +kernel) ⟨Nat.le_of_ble_eq_true rfl, Nat.le_of_ble_eq_true rfl⟩) hK hst hnw hS hW (O.b1 hτ) (by decide) rfl rfl rfl hl.1 rfl (Nat.le_of_ble_eq_true rfl) dX6_count_115 ⟨Nat.zero_le _, Nat.zero_le _⟩) hS (fun r_3 M_1 H locs hq_2 hW hS => ?_)
    obtain ⟨hq_2a, hq_2b⟩ := hq_2
    rw [hq_2b] at hW
    rw [hq_2a]
    exact W.iret (v := (zc_pw (b + 1) (nI 0) M)) hx hb hr (fun t ht hWm => ⟨⟨(zc_pw (b + 1) (nI 0) M), M, rfl, ⟨rfl, rfl⟩, xw_end ht hW⟩, hS.F ht⟩) hS.2.2 dX6_count_118
  · refine lv_iload_n hx hb dX6_count_0 rfl (lv_at hl 1 rfl) ?_
    refine lv_tableIn (off := 118) (tgt := 119) hx hb dX6_count_1 (by decide) (by decide) (by decide) (by decide) ?_
    refine lv_aload_n hx hb dX6_count_119 rfl (lv_at hl 0 rfl) ?_
    refine xg_get (κ := 16) (ci := 6) (C := RX6) (T := TX6) (N := 6) hx hb hts inX6 hown hK hW hτ (by decide) rfl rfl 0 (by decide) (hts (.fieldLink RX6 10 "HalfTickets" "now" "LHalfTickets$Ministry;") (List.mem_of_getElem? (i := 1) (by decide +kernel))) (fun _ h9 => h9) rfl dX6_count_120 ?_
    refine lv_iconst (v := (nI 1)) hx hb dX6_count_123 (by decide) ?_
    refine xc_i (xr_V (As := [.int (nI 1)]) (rest := []) (κ := 1) ⟨hx, hb, hml, hown, hts⟩ (c_X2_peopleWho l O M (b + 1) (O.b1 hτ) (nI 1)) (cwV 1 hts gX6_count_X2_peopleWho rfl rfl rfl (by decide +kernel) ⟨Nat.le_of_ble_eq_true rfl, Nat.le_of_ble_eq_true rfl⟩) hK hst hnw hS hW (O.b1 hτ) (by decide) rfl rfl rfl hl.1 rfl (Nat.le_of_ble_eq_true rfl) dX6_count_124 ⟨Nat.zero_le _, Nat.zero_le _⟩) hS (fun r_6 M_4 H locs hq_5 hW hS => ?_)
    obtain ⟨hq_5a, hq_5b⟩ := hq_5
    rw [hq_5b] at hW
    rw [hq_5a]
    exact W.iret (v := (zc_pw (b + 1) (nI 1) M)) hx hb hr (fun t ht hWm => ⟨⟨(zc_pw (b + 1) (nI 1) M), M, rfl, ⟨rfl, rfl⟩, xw_end ht hW⟩, hS.F ht⟩) hS.2.2 dX6_count_127
  · refine lv_iload_n hx hb dX6_count_0 rfl (lv_at hl 1 rfl) ?_
    refine lv_tableIn (off := 127) (tgt := 128) hx hb dX6_count_1 (by decide) (by decide) (by decide) (by decide) ?_
    refine lv_aload_n hx hb dX6_count_128 rfl (lv_at hl 0 rfl) ?_
    refine xg_get (κ := 16) (ci := 6) (C := RX6) (T := TX6) (N := 6) hx hb hts inX6 hown hK hW hτ (by decide) rfl rfl 0 (by decide) (hts (.fieldLink RX6 10 "HalfTickets" "now" "LHalfTickets$Ministry;") (List.mem_of_getElem? (i := 1) (by decide +kernel))) (fun _ h9 => h9) rfl dX6_count_129 ?_
    refine lv_iconst (v := (nI 2)) hx hb dX6_count_132 (by decide) ?_
    refine xc_i (xr_V (As := [.int (nI 2)]) (rest := []) (κ := 1) ⟨hx, hb, hml, hown, hts⟩ (c_X2_peopleWho l O M (b + 1) (O.b1 hτ) (nI 2)) (cwV 1 hts gX6_count_X2_peopleWho rfl rfl rfl (by decide +kernel) ⟨Nat.le_of_ble_eq_true rfl, Nat.le_of_ble_eq_true rfl⟩) hK hst hnw hS hW (O.b1 hτ) (by decide) rfl rfl rfl hl.1 rfl (Nat.le_of_ble_eq_true rfl) dX6_count_133 ⟨Nat.zero_le _, Nat.zero_le _⟩) hS (fun r_9 M_7 H locs hq_8 hW hS => ?_)
    obtain ⟨hq_8a, hq_8b⟩ := hq_8
    rw [hq_8b] at hW
    rw [hq_8a]
    exact W.iret (v := (zc_pw (b + 1) (nI 2) M)) hx hb hr (fun t ht hWm => ⟨⟨(zc_pw (b + 1) (nI 2) M), M, rfl, ⟨rfl, rfl⟩, xw_end ht hW⟩, hS.F ht⟩) hS.2.2 dX6_count_136
  · refine lv_iload_n hx hb dX6_count_0 rfl (lv_at hl 1 rfl) ?_
    refine lv_tableIn (off := 136) (tgt := 137) hx hb dX6_count_1 (by decide) (by decide) (by decide) (by decide) ?_
    refine lv_aload_n hx hb dX6_count_137 rfl (lv_at hl 0 rfl) ?_
    refine xg_get (κ := 16) (ci := 6) (C := RX6) (T := TX6) (N := 6) hx hb hts inX6 hown hK hW hτ (by decide) rfl rfl 0 (by decide) (hts (.fieldLink RX6 10 "HalfTickets" "now" "LHalfTickets$Ministry;") (List.mem_of_getElem? (i := 1) (by decide +kernel))) (fun _ h9 => h9) rfl dX6_count_138 ?_
    refine lv_iconst (v := (nI 3)) hx hb dX6_count_141 (by decide) ?_
    refine xc_i (xr_V (As := [.int (nI 3)]) (rest := []) (κ := 1) ⟨hx, hb, hml, hown, hts⟩ (c_X2_peopleWho l O M (b + 1) (O.b1 hτ) (nI 3)) (cwV 1 hts gX6_count_X2_peopleWho rfl rfl rfl (by decide +kernel) ⟨Nat.le_of_ble_eq_true rfl, Nat.le_of_ble_eq_true rfl⟩) hK hst hnw hS hW (O.b1 hτ) (by decide) rfl rfl rfl hl.1 rfl (Nat.le_of_ble_eq_true rfl) dX6_count_142 ⟨Nat.zero_le _, Nat.zero_le _⟩) hS (fun r_12 M_10 H locs hq_11 hW hS => ?_)
    obtain ⟨hq_11a, hq_11b⟩ := hq_11
    rw [hq_11b] at hW
    rw [hq_11a]
    exact W.iret (v := (zc_pw (b + 1) (nI 3) M)) hx hb hr (fun t ht hWm => ⟨⟨(zc_pw (b + 1) (nI 3) M), M, rfl, ⟨rfl, rfl⟩, xw_end ht hW⟩, hS.F ht⟩) hS.2.2 dX6_count_145
  · refine lv_iload_n hx hb dX6_count_0 rfl (lv_at hl 1 rfl) ?_
    refine lv_tableIn (off := 145) (tgt := 146) hx hb dX6_count_1 (by decide) (by decide) (by decide) (by decide) ?_
    refine lv_aload_n hx hb dX6_count_146 rfl (lv_at hl 0 rfl) ?_
    refine xg_get (κ := 16) (ci := 6) (C := RX6) (T := TX6) (N := 6) hx hb hts inX6 hown hK hW hτ (by decide) rfl rfl 0 (by decide) (hts (.fieldLink RX6 10 "HalfTickets" "now" "LHalfTickets$Ministry;") (List.mem_of_getElem? (i := 1) (by decide +kernel))) (fun _ h9 => h9) rfl dX6_count_147 ?_
    refine xc_i (xr_V (As := []) (rest := []) (κ := 1) ⟨hx, hb, hml, hown, hts⟩ (c_X2_halvesOfWindows l O M (b + 1) (O.b1 hτ)) (cwV 0 hts gX6_count_X2_halvesOfWindows rfl rfl rfl (by decide +kernel) ⟨Nat.le_of_ble_eq_true rfl, Nat.le_of_ble_eq_true rfl⟩) hK hst hnw hS hW (O.b1 hτ) (by decide) rfl rfl rfl hl.1 rfl (Nat.le_of_ble_eq_true rfl) dX6_count_150 ⟨Nat.zero_le _, Nat.zero_le _⟩) hS (fun r_15 M_13 H locs hq_14 hW hS => ?_)
    obtain ⟨hq_14a, hq_14b⟩ := hq_14
    rw [hq_14b] at hW
    rw [hq_14a]
    exact W.iret (v := (zc_hw (b + 1) M)) hx hb hr (fun t ht hWm => ⟨⟨(zc_hw (b + 1) M), M, rfl, ⟨rfl, rfl⟩, xw_end ht hW⟩, hS.F ht⟩) hS.2.2 dX6_count_153
  · refine lv_iload_n hx hb dX6_count_0 rfl (lv_at hl 1 rfl) ?_
    refine lv_tableIn (off := 153) (tgt := 154) hx hb dX6_count_1 (by decide) (by decide) (by decide) (by decide) ?_
    refine lv_aload_n hx hb dX6_count_154 rfl (lv_at hl 0 rfl) ?_
    refine xg_get (κ := 16) (ci := 6) (C := RX6) (T := TX6) (N := 6) hx hb hts inX6 hown hK hW hτ (by decide) rfl rfl 0 (by decide) (hts (.fieldLink RX6 10 "HalfTickets" "now" "LHalfTickets$Ministry;") (List.mem_of_getElem? (i := 1) (by decide +kernel))) (fun _ h9 => h9) rfl dX6_count_155 ?_
    refine xc_i (xr_V (As := []) (rest := []) (κ := 1) ⟨hx, hb, hml, hown, hts⟩ (c_X2_halvesOfPeople l O M (b + 1) (O.b1 hτ)) (cwV 0 hts gX6_count_X2_halvesOfPeople rfl rfl rfl (by decide +kernel) ⟨Nat.le_of_ble_eq_true rfl, Nat.le_of_ble_eq_true rfl⟩) hK hst hnw hS hW (O.b1 hτ) (by decide) rfl rfl rfl hl.1 rfl (Nat.le_of_ble_eq_true rfl) dX6_count_158 ⟨Nat.zero_le _, Nat.zero_le _⟩) hS (fun r_18 M_16 H locs hq_17 hW hS => ?_)
    obtain ⟨hq_17a, hq_17b⟩ := hq_17
    rw [hq_17b] at hW
    rw [hq_17a]
    exact W.iret (v := (zc_hp (b + 1) M)) hx hb hr (fun t ht hWm => ⟨⟨(zc_hp (b + 1) M), M, rfl, ⟨rfl, rfl⟩, xw_end ht hW⟩, hS.F ht⟩) hS.2.2 dX6_count_161
  · refine lv_iload_n hx hb dX6_count_0 rfl (lv_at hl 1 rfl) ?_
    refine lv_tableIn (off := 161) (tgt := 162) hx hb dX6_count_1 (by decide) (by decide) (by decide) (by decide) ?_
    refine lv_aload_n hx hb dX6_count_162 rfl (lv_at hl 0 rfl) ?_
    refine xg_get (κ := 16) (ci := 6) (C := RX6) (T := TX6) (N := 6) hx hb hts inX6 hown hK hW hτ (by decide) rfl rfl 0 (by decide) (hts (.fieldLink RX6 10 "HalfTickets" "now" "LHalfTickets$Ministry;") (List.mem_of_getElem? (i := 1) (by decide +kernel))) (fun _ h9 => h9) rfl dX6_count_163 ?_
    refine xg_get (κ := 1) (ci := 2) (C := RX2) (T := TX2) (N := 7) hx hb hts inX2 hown hK hW (O.b1 hτ) (by decide) rfl rfl 5 (by decide) (hts (.fieldLink RX6 174 "HalfTickets$Ministry" "lost" "I") (List.mem_of_getElem? (i := 5) (by decide +kernel))) (fun _ h9 => h9) rfl dX6_count_166 ?_
    exact W.iret (v := (M (b + 1) 5)) hx hb hr (fun t ht hWm => ⟨⟨(M (b + 1) 5), M, rfl, ⟨rfl, rfl⟩, xw_end ht hW⟩, hS.F ht⟩) hS.2.2 dX6_count_169
  · refine lv_iload_n hx hb dX6_count_0 rfl (lv_at hl 1 rfl) ?_
    refine lv_tableIn (off := 169) (tgt := 170) hx hb dX6_count_1 (by decide) (by decide) (by decide) (by decide) ?_
    refine lv_aload_n hx hb dX6_count_170 rfl (lv_at hl 0 rfl) ?_
    refine xg_get (κ := 16) (ci := 6) (C := RX6) (T := TX6) (N := 6) hx hb hts inX6 hown hK hW hτ (by decide) rfl rfl 0 (by decide) (hts (.fieldLink RX6 10 "HalfTickets" "now" "LHalfTickets$Ministry;") (List.mem_of_getElem? (i := 1) (by decide +kernel))) (fun _ h9 => h9) rfl dX6_count_171 ?_
    refine xg_get (κ := 1) (ci := 2) (C := RX2) (T := TX2) (N := 7) hx hb hts inX2 hown hK hW (O.b1 hτ) (by decide) rfl rfl 6 (by decide) (hts (.fieldLink RX6 85 "HalfTickets$Ministry" "brought" "I") (List.mem_of_getElem? (i := 6) (by decide +kernel))) (fun _ h9 => h9) rfl dX6_count_174 ?_
    exact W.iret (v := (M (b + 1) 6)) hx hb hr (fun t ht hWm => ⟨⟨(M (b + 1) 6), M, rfl, ⟨rfl, rfl⟩, xw_end ht hW⟩, hS.F ht⟩) hS.2.2 dX6_count_177
  · refine lv_iload_n hx hb dX6_count_0 rfl (lv_at hl 1 rfl) ?_
    refine lv_tableIn (off := 177) (tgt := 178) hx hb dX6_count_1 (by decide) (by decide) (by decide) (by decide) ?_
    refine lv_aload_n hx hb dX6_count_178 rfl (lv_at hl 0 rfl) ?_
    refine xg_get (κ := 16) (ci := 6) (C := RX6) (T := TX6) (N := 6) hx hb hts inX6 hown hK hW hτ (by decide) rfl rfl 0 (by decide) (hts (.fieldLink RX6 10 "HalfTickets" "now" "LHalfTickets$Ministry;") (List.mem_of_getElem? (i := 1) (by decide +kernel))) (fun _ h9 => h9) rfl dX6_count_179 ?_
    refine xc_i (xr_V (As := []) (rest := []) (κ := 1) ⟨hx, hb, hml, hown, hts⟩ (c_X2_waits l O M (b + 1) (O.b1 hτ)) (cwV 0 hts gX6_count_X2_waits rfl rfl rfl (by decide +kernel) ⟨Nat.le_of_ble_eq_true rfl, Nat.le_of_ble_eq_true rfl⟩) hK hst hnw hS hW (O.b1 hτ) (by decide) rfl rfl rfl hl.1 rfl (Nat.le_of_ble_eq_true rfl) dX6_count_182 ⟨Nat.zero_le _, Nat.zero_le _⟩) hS (fun r_21 M_19 H locs hq_20 hW hS => ?_)
    obtain ⟨hq_20a, hq_20b⟩ := hq_20
    rw [hq_20b] at hW
    rw [hq_20a]
    exact W.iret (v := (zc_wt (b + 1) M)) hx hb hr (fun t ht hWm => ⟨⟨(zc_wt (b + 1) M), M, rfl, ⟨rfl, rfl⟩, xw_end ht hW⟩, hS.F ht⟩) hS.2.2 dX6_count_185
  · refine lv_iload_n hx hb dX6_count_0 rfl (lv_at hl 1 rfl) ?_
    refine lv_tableIn (off := 185) (tgt := 186) hx hb dX6_count_1 (by decide) (by decide) (by decide) (by decide) ?_
    refine lv_aload_n hx hb dX6_count_186 rfl (lv_at hl 0 rfl) ?_
    refine xg_get (κ := 16) (ci := 6) (C := RX6) (T := TX6) (N := 6) hx hb hts inX6 hown hK hW hτ (by decide) rfl rfl 0 (by decide) (hts (.fieldLink RX6 10 "HalfTickets" "now" "LHalfTickets$Ministry;") (List.mem_of_getElem? (i := 1) (by decide +kernel))) (fun _ h9 => h9) rfl dX6_count_187 ?_
    refine xc_i (xr_V (As := []) (rest := []) (κ := 1) ⟨hx, hb, hml, hown, hts⟩ (c_X2_timesSentBack l O M (b + 1) (O.b1 hτ)) (cwV 0 hts gX6_count_X2_timesSentBack rfl rfl rfl (by decide +kernel) ⟨Nat.le_of_ble_eq_true rfl, Nat.le_of_ble_eq_true rfl⟩) hK hst hnw hS hW (O.b1 hτ) (by decide) rfl rfl rfl hl.1 rfl (Nat.le_of_ble_eq_true rfl) dX6_count_190 ⟨Nat.zero_le _, Nat.zero_le _⟩) hS (fun r_24 M_22 H locs hq_23 hW hS => ?_)
    obtain ⟨hq_23a, hq_23b⟩ := hq_23
    rw [hq_23b] at hW
    rw [hq_23a]
    exact W.iret (v := (zc_bk (b + 1) M)) hx hb hr (fun t ht hWm => ⟨⟨(zc_bk (b + 1) M), M, rfl, ⟨rfl, rfl⟩, xw_end ht hW⟩, hS.F ht⟩) hS.2.2 dX6_count_193

set_option maxHeartbeats 4000000 in
set_option maxRecDepth 100000 in
/-- longest() -/
theorem cz_longest (l : Launch) {G : va_G} {g : Nat → ClassId} {t0 τ : Nat → Nat} {A : Nat → Prop} (O : xk_O τ A) (M : xm_T) (b : Nat) (hτ : τ b = 16) : Met l yX6_longest wsX6_longest ({ frames := 5, cells := 0, slots := 0, locals := 160 }) (va_Pc [.ref b] (xS_t G g t0 τ A M)) (va_Qi (fun r M' => r = (zf_lo (b + 1) M 6).1 ∧ M' = M) (fun M' t => xw_D G g τ M' t.heap) A) 0 0 A := by
  refine Met.ofW (cc := cX6_longest) (maxL := 5) (ret := (some .int)) (by decide) rfl ?_
  intro p e s m args below meth c s₁ B hml hv
  obtain ⟨rfl, hW, hK, hst, hnw⟩ := hv
  have hx := B.exec
  have hb := B.bytes
  have hr := B.returns
  have hts := atoms_spec (ws := wsX6_longest) B.pre
  have hown : s.vm.findClass RX6 = some m.cls := findClass_of_methodNamed B.named
  have hlocks := B.notSynchronized
  have hS : va_S A s.heap s.heap [] := va_S.rf
  have inX5 : ∀ w ∈ u_ws RX5 TX5 7, w ∈ wsX6_longest := by decide +kernel
  have inX6 : ∀ w ∈ u_ws RX6 TX6 6, w ∈ wsX6_longest := by decide +kernel
  have hl := lv_entry ([.ref b]) (n := 5) (Nat.le_of_ble_eq_true rfl)
  rw [lg_entry_eq]
  generalize (lg_sl ([.ref b]) ++ List.replicate (5 - (lg_sl ([.ref b])).length) Slot.unset).toArray = ls at hl ⊢
  have hl : lv_has ls 5 [(0, .ref b)] := hl
  refine lv_bipush (v := (-6)) hx hb dX6_longest_0 (by decide) ?_
  refine lv_istore_n (lv' := [(1, .int (-6)), (0, .ref b)]) hx hb dX6_longest_2 rfl hl (by decide) rfl (fun ls hl => ?_)
  refine lv_iconst (v := (nI 0)) hx hb dX6_longest_3 (by decide) ?_
  refine lv_istore_n (lv' := [(2, .int (nI 0)), (1, .int (-6)), (0, .ref b)]) hx hb dX6_longest_4 rfl hl (by decide) rfl (fun ls hl => ?_)
  refine lv_iconst (v := (nI 0)) hx hb dX6_longest_5 (by decide) ?_
  refine lv_istore_n (lv' := [(3, .int (nI 0)), (2, .int (nI 0)), (1, .int (-6)), (0, .ref b)]) hx hb dX6_longest_6 rfl hl (by decide) rfl (fun ls hl => ?_)
  refine xl_up (σ := (Int32 × Int32)) 6 (fun kk zz H locs ls => xw_D G g τ M H ∧ va_S A s.heap H locs ∧ lv_has ls 5 [(3, .int (nI kk)), (2, .int zz.2), (1, .int zz.1), (0, .ref b)] ∧ zz = zf_lo (b + 1) M kk) (fun z7 H locs ls hI => ?_) (fun k7 z7 H locs ls hk7 hI ih7 => ?_) (k0 := 0) (z0 := (-6, nI 0)) (Nat.zero_le _) ⟨hW, hS, lv_sub hl [0, 1, 2, 3] rfl, rfl⟩
  · obtain ⟨hW, hS, hl, hE7⟩ := hI
    refine lv_iload_n hx hb dX6_longest_7 rfl (lv_at hl 0 rfl) ?_
    refine lv_bipush (v := (nI 6)) hx hb dX6_longest_8 (by decide) ?_
    refine lv_icmp_ge (tgt := 57) hx hb dX6_longest_10 (by decide) (fun c_1 => ?_) (fun c_1 => ?_)
    · refine lv_iload_n hx hb dX6_longest_57 rfl (lv_at hl 2 rfl) ?_
      exact W.iret (v := z7.1) hx hb hr (fun t ht hWm => ⟨⟨z7.1, M, rfl, ⟨(by rw [hE7]), rfl⟩, xw_end ht hW⟩, hS.F ht⟩) hS.2.2 dX6_longest_58
    · exact absurd (nI_le (Nat.le_refl _) (by decide)) c_1
  · obtain ⟨hW, hS, hl, hE7⟩ := hI
    refine lv_iload_n hx hb dX6_longest_7 rfl (lv_at hl 0 rfl) ?_
    refine lv_bipush (v := (nI 6)) hx hb dX6_longest_8 (by decide) ?_
    refine lv_icmp_ge (tgt := 57) hx hb dX6_longest_10 (by decide) (fun c_2 => ?_) (fun c_2 => ?_)
    · exact absurd c_2 (nI_ge hk7 (by decide))
    · refine lv_aload_n hx hb dX6_longest_13 rfl (lv_at hl 3 rfl) ?_
      refine xg_get (κ := 16) (ci := 6) (C := RX6) (T := TX6) (N := 6) hx hb hts inX6 hown hK hW hτ (by decide) rfl rfl 0 (by decide) (hts (.fieldLink RX6 10 "HalfTickets" "now" "LHalfTickets$Ministry;") (List.mem_of_getElem? (i := 1) (by decide +kernel))) (fun _ h9 => h9) rfl dX6_longest_14 ?_
      refine lv_iload_n hx hb dX6_longest_17 rfl (lv_at hl 0 rfl) ?_
      refine xc_q (xr_V (As := [.int (nI k7)]) (rest := []) (κ := 1) ⟨hx, hb, hml, hown, hts⟩ (c_X2_windowAt l O M (b + 1) (O.b1 hτ) (nI k7)) (cwV 1 hts gX6_longest_X2_windowAt rfl rfl rfl (by decide +kernel) ⟨Nat.le_of_ble_eq_true rfl, Nat.le_of_ble_eq_true rfl⟩) hK hst hnw hS hW (O.b1 hτ) (by decide) rfl rfl rfl hl.1 rfl (Nat.le_of_ble_eq_true rfl) dX6_longest_18 ⟨Nat.zero_le _, Nat.zero_le _⟩) hS (fun r_5 M_3 H locs hq_4 hW hS => ?_)
      obtain ⟨hq_4a, hq_4b⟩ := hq_4
      rw [hq_4b] at hW
      rw [hq_4a]
      rw [xf_win_s (b + 1) hk7]
      refine W.eq (g2 := F0 m 21 ls [.ref (b + 1 + 5 * k7 + 4)]) rfl ?_
      refine lv_astore (lv' := [(4, .ref (b + 1 + 5 * k7 + 4)), (3, .int (nI k7)), (2, .int z7.2), (1, .int z7.1), (0, .ref b)]) hx hb dX6_longest_21 hl (by decide) rfl (fun ls hl => ?_)
      refine lv_aload hx hb dX6_longest_23 (lv_at hl 0 rfl) ?_
      refine lv_ifnull hx hb dX6_longest_25 ?_
      refine lv_aload hx hb dX6_longest_28 (lv_at hl 0 rfl) ?_
      refine xg_get (κ := 5) (ci := 5) (C := RX5) (T := TX5) (N := 7) hx hb hts inX5 hown hK hW (O.w (O.b1 hτ) hk7) (by decide) rfl rfl 5 (by decide) (hts (.fieldLink RX6 152 "HalfTickets$Window" "queue" "LHalfTickets$Line;") (List.mem_of_getElem? (i := 2) (by decide +kernel))) (fun _ h9 => h9) rfl dX6_longest_30 ?_
      refine xc_i (xr_V (As := []) (rest := []) (κ := 6) ⟨hx, hb, hml, hown, hts⟩ (c_X1_length l O M (b + 1 + 5 * k7 + 5) (O.q (O.w (O.b1 hτ) hk7))) (cwV 0 hts gX6_longest_X1_length rfl rfl rfl (by decide +kernel) ⟨Nat.le_of_ble_eq_true rfl, Nat.le_of_ble_eq_true rfl⟩) hK hst hnw hS hW (O.q (O.w (O.b1 hτ) hk7)) (by decide) rfl rfl rfl hl.1 rfl (Nat.le_of_ble_eq_true rfl) dX6_longest_33 ⟨Nat.zero_le _, Nat.zero_le _⟩) hS (fun r_8 M_6 H locs hq_7 hW hS => ?_)
      obtain ⟨hq_7a, hq_7b⟩ := hq_7
      rw [hq_7b] at hW
      rw [hq_7a]
      refine lv_iload_n hx hb dX6_longest_36 rfl (lv_at hl 2 rfl) ?_
      refine lv_icmp_le (tgt := 51) hx hb dX6_longest_37 (by decide) (fun c_9 => ?_) (fun c_9 => ?_)
      · refine lv_iinc (v := (nI (k7 + 1))) (lv' := [(3, .int (nI (k7 + 1))), (4, .ref (b + 1 + 5 * k7 + 4)), (2, .int z7.2), (1, .int z7.1), (0, .ref b)]) hx hb dX6_longest_51 hl (k := 1) rfl ((nI_1 k7)) (by decide) rfl (fun ls hl => ?_)
        refine lv_goto (tgt := 7) hx hb dX6_longest_54 (by decide) ?_
        exact ih7 z7 _ _ _ ⟨hW, hS, lv_sub hl [0, 2, 3, 4] rfl, (by rw [hE7]; exact (if_neg (fun z => absurd z (Int32.not_lt.mpr (by rw [← hE7]; exact c_9)))).symm)⟩
      · refine lv_aload hx hb dX6_longest_40 (lv_at hl 0 rfl) ?_
        refine xg_get (κ := 5) (ci := 5) (C := RX5) (T := TX5) (N := 7) hx hb hts inX5 hown hK hW (O.w (O.b1 hτ) hk7) (by decide) rfl rfl 5 (by decide) (hts (.fieldLink RX6 152 "HalfTickets$Window" "queue" "LHalfTickets$Line;") (List.mem_of_getElem? (i := 2) (by decide +kernel))) (fun _ h9 => h9) rfl dX6_longest_42 ?_
        refine xc_i (xr_V (As := []) (rest := []) (κ := 6) ⟨hx, hb, hml, hown, hts⟩ (c_X1_length l O M (b + 1 + 5 * k7 + 5) (O.q (O.w (O.b1 hτ) hk7))) (cwV 0 hts gX6_longest_X1_length rfl rfl rfl (by decide +kernel) ⟨Nat.le_of_ble_eq_true rfl, Nat.le_of_ble_eq_true rfl⟩) hK hst hnw hS hW (O.q (O.w (O.b1 hτ) hk7)) (by decide) rfl rfl rfl hl.1 rfl (Nat.le_of_ble_eq_true rfl) dX6_longest_45 ⟨Nat.zero_le _, Nat.zero_le _⟩) hS (fun r_12 M_10 H locs hq_11 hW hS => ?_)
        obtain ⟨hq_11a, hq_11b⟩ := hq_11
        rw [hq_11b] at hW
        rw [hq_11a]
        refine lv_istore_n (lv' := [(2, .int (M (b + 1 + 5 * k7 + 5) 1)), (4, .ref (b + 1 + 5 * k7 + 4)), (3, .int (nI k7)), (1, .int z7.1), (0, .ref b)]) hx hb dX6_longest_48 rfl hl (by decide) rfl (fun ls hl => ?_)
        refine lv_iload_n hx hb dX6_longest_49 rfl (lv_at hl 2 rfl) ?_
        refine lv_istore_n (lv' := [(1, .int (nI k7)), (2, .int (M (b + 1 + 5 * k7 + 5) 1)), (4, .ref (b + 1 + 5 * k7 + 4)), (3, .int (nI k7)), (0, .ref b)]) hx hb dX6_longest_50 rfl hl (by decide) rfl (fun ls hl => ?_)
        refine lv_iinc (v := (nI (k7 + 1))) (lv' := [(3, .int (nI (k7 + 1))), (1, .int (nI k7)), (2, .int (M (b + 1 + 5 * k7 + 5) 1)), (4, .ref (b + 1 + 5 * k7 + 4)), (0, .ref b)]) hx hb dX6_longest_51 hl (k := 3) rfl ((nI_1 k7)) (by decide) rfl (fun ls hl => ?_)
        refine lv_goto (tgt := 7) hx hb dX6_longest_54 (by decide) ?_
        exact ih7 (nI k7, M (b + 1 + 5 * k7 + 5) 1) _ _ _ ⟨hW, hS, lv_sub hl [0, 2, 1, 4] rfl, (by exact (if_pos (by rw [← hE7]; exact Int32.not_le.mp c_9)).symm)⟩

set_option maxHeartbeats 4000000 in
set_option maxRecDepth 100000 in
/-- untilDone(k) -/
theorem cz_untilDone (l : Launch) {G : va_G} {g : Nat → ClassId} {t0 τ : Nat → Nat} {A : Nat → Prop} (O : xk_O τ A) (M : xm_T) (b : Nat) (hτ : τ b = 16) {nn TT BB : Nat} (hz : zi (b + 1) M nn TT TT BB) (hpN : zp_N b M) (hB : BB + 43200 < 2 ^ 31) {k : Nat} (hk : k < nn) : Met l yX6_untilDone wsX6_untilDone ({ frames := 5, cells := 0, slots := 0, locals := 160 }) (va_Pc [.ref b, .int (nI k)] (xS_t G g t0 τ A M)) (va_Qi (fun r M' => r = zf_ud (b + 1) (b + 83) M (zy_c b M) k ∧ zy b M M') (fun M' t => xw_D G g τ M' t.heap) A) 0 0 A := by
  refine Met.ofW (cc := cX6_untilDone) (maxL := 5) (ret := (some .int)) (by decide) rfl ?_
  intro p e s m args below meth c s₁ B hml hv
  obtain ⟨rfl, hW, hK, hst, hnw⟩ := hv
  have hx := B.exec
  have hb := B.bytes
  have hr := B.returns
  have hts := atoms_spec (ws := wsX6_untilDone) B.pre
  have hown : s.vm.findClass RX6 = some m.cls := findClass_of_methodNamed B.named
  have hlocks := B.notSynchronized
  have hS : va_S A s.heap s.heap [] := va_S.rf
  have inX4 : ∀ w ∈ u_ws RX4 TX4 12, w ∈ wsX6_untilDone := by decide +kernel
  have inX6 : ∀ w ∈ u_ws RX6 TX6 6, w ∈ wsX6_untilDone := by decide +kernel
  have hl := lv_entry ([.ref b, .int (nI k)]) (n := 5) (Nat.le_of_ble_eq_true rfl)
  rw [lg_entry_eq]
  generalize (lg_sl ([.ref b, .int (nI k)]) ++ List.replicate (5 - (lg_sl ([.ref b, .int (nI k)])).length) Slot.unset).toArray = ls at hl ⊢
  have hl : lv_has ls 5 [(0, .ref b), (1, .int (nI k))] := hl
  have hk24 : k < 24 := by have := hz.n; omega
  refine lv_aload_n hx hb dX6_untilDone_0 rfl (lv_at hl 0 rfl) ?_
  refine xg_get (κ := 16) (ci := 6) (C := RX6) (T := TX6) (N := 6) hx hb hts inX6 hown hK hW hτ (by decide) rfl rfl 0 (by decide) (hts (.fieldLink RX6 10 "HalfTickets" "now" "LHalfTickets$Ministry;") (List.mem_of_getElem? (i := 1) (by decide +kernel))) (fun _ h9 => h9) rfl dX6_untilDone_1 ?_
  refine lv_iload_n hx hb dX6_untilDone_4 rfl (lv_at hl 1 rfl) ?_
  refine xc_q (xr_V (As := [.int (nI k)]) (rest := []) (κ := 1) ⟨hx, hb, hml, hown, hts⟩ (c_X2_personAt l O M (b + 1) (O.b1 hτ) (nI k)) (cwV 1 hts gX6_untilDone_X2_personAt rfl rfl rfl (by decide +kernel) ⟨Nat.le_of_ble_eq_true rfl, Nat.le_of_ble_eq_true rfl⟩) hK hst hnw hS hW (O.b1 hτ) (by decide) rfl rfl rfl hl.1 rfl (Nat.le_of_ble_eq_true rfl) dX6_untilDone_5 ⟨Nat.zero_le _, Nat.zero_le _⟩) hS (fun r_3 M_1 H locs hq_2 hW hS => ?_)
  obtain ⟨hq_2a, hq_2b⟩ := hq_2
  rw [hq_2b] at hW
  rw [hq_2a]
  rw [xf_per_s hz.1.2.1 hz.n hk]
  refine W.eq (g2 := F0 m 8 ls [.ref (b + 1 + 2 * k + 34)]) rfl ?_
  refine lv_astore_n (lv' := [(2, .ref (b + 1 + 2 * k + 34)), (0, .ref b), (1, .int (nI k))]) hx hb dX6_untilDone_8 rfl hl (by decide) rfl (fun ls hl => ?_)
  refine lv_aload_n hx hb dX6_untilDone_9 rfl (lv_at hl 0 rfl) ?_
  refine lv_ifnonnull (tgt := 15) hx hb dX6_untilDone_10 (by decide) ?_
  refine lv_aload_n hx hb dX6_untilDone_15 rfl (lv_at hl 0 rfl) ?_
  refine xg_get (κ := 8) (ci := 4) (C := RX4) (T := TX4) (N := 12) hx hb hts inX4 hown hK hW (O.p (O.b1 hτ) hk24) (by decide) rfl rfl 3 (by decide) (hts (.fieldLink RX6 108 "HalfTickets$Person" "where" "I") (List.mem_of_getElem? (i := 2) (by decide +kernel))) (fun _ h9 => h9) rfl dX6_untilDone_16 ?_
  refine lv_iconst (v := (nI 2)) hx hb dX6_untilDone_19 (by decide) ?_
  refine lv_icmp_ne (tgt := 25) hx hb dX6_untilDone_20 (by decide) (fun c_4 => ?_) (fun c_4 => ?_)
  · refine lv_aload_n hx hb dX6_untilDone_25 rfl (lv_at hl 1 rfl) ?_
    refine xg_get (κ := 16) (ci := 6) (C := RX6) (T := TX6) (N := 6) hx hb hts inX6 hown hK hW hτ (by decide) rfl rfl 1 (by decide) (hts (.fieldLink RX6 16 "HalfTickets" "trial" "LHalfTickets$Ministry;") (List.mem_of_getElem? (i := 3) (by decide +kernel))) (fun _ h9 => h9) rfl dX6_untilDone_26 ?_
    refine lv_aload_n hx hb dX6_untilDone_29 rfl (lv_at hl 1 rfl) ?_
    refine xg_get (κ := 16) (ci := 6) (C := RX6) (T := TX6) (N := 6) hx hb hts inX6 hown hK hW hτ (by decide) rfl rfl 0 (by decide) (hts (.fieldLink RX6 10 "HalfTickets" "now" "LHalfTickets$Ministry;") (List.mem_of_getElem? (i := 1) (by decide +kernel))) (fun _ h9 => h9) rfl dX6_untilDone_30 ?_
    refine xc_v (xr_V (As := [.ref (b + 1)]) (rest := []) (κ := 1) ⟨hx, hb, hml, hown, hts⟩ (c_X2_become l O M (b + 83) (b + 1) (O.b2 hτ) (O.b1 hτ) (by omega) (zp_T hpN)) (cwV 1 hts gX6_untilDone_X2_become rfl rfl rfl (by decide +kernel) ⟨Nat.le_of_ble_eq_true rfl, Nat.le_of_ble_eq_true rfl⟩) hK hst hnw hS hW (O.b2 hτ) (by decide) rfl rfl rfl hl.1 rfl (Nat.le_of_ble_eq_true rfl) dX6_untilDone_33 ⟨Nat.zero_le _, Nat.zero_le _⟩) hS (fun M_5 H locs hq_6 hW hS => ?_)
    replace hq_6 : M_5 = zy_c b M := hq_6
    rw [hq_6] at hW
    obtain ⟨Z, eZ⟩ : ∃ Z, Z = zy_c b M := ⟨_, rfl⟩
    rw [← eZ] at hW
    have hzZ : zi (b + 83) Z nn TT TT BB := by rw [eZ]; exact zi_g hz zy_cg
    have hoZ : zz_o (b + 83) (zy_c b M) Z := by rw [eZ]; exact zo_rf
    refine lv_aload_n hx hb dX6_untilDone_36 rfl (lv_at hl 1 rfl) ?_
    refine xg_get (κ := 16) (ci := 6) (C := RX6) (T := TX6) (N := 6) hx hb hts inX6 hown hK hW hτ (by decide) rfl rfl 1 (by decide) (hts (.fieldLink RX6 16 "HalfTickets" "trial" "LHalfTickets$Ministry;") (List.mem_of_getElem? (i := 3) (by decide +kernel))) (fun _ h9 => h9) rfl dX6_untilDone_37 ?_
    refine lv_iload_n hx hb dX6_untilDone_40 rfl (lv_at hl 2 rfl) ?_
    refine xc_q (xr_V (As := [.int (nI k)]) (rest := []) (κ := 1) ⟨hx, hb, hml, hown, hts⟩ (c_X2_personAt l O Z (b + 83) (O.b2 hτ) (nI k)) (cwV 1 hts gX6_untilDone_X2_personAt rfl rfl rfl (by decide +kernel) ⟨Nat.le_of_ble_eq_true rfl, Nat.le_of_ble_eq_true rfl⟩) hK hst hnw hS hW (O.b2 hτ) (by decide) rfl rfl rfl hl.1 rfl (Nat.le_of_ble_eq_true rfl) dX6_untilDone_41 ⟨Nat.zero_le _, Nat.zero_le _⟩) hS (fun r_10 M_8 H locs hq_9 hW hS => ?_)
    obtain ⟨hq_9a, hq_9b⟩ := hq_9
    rw [hq_9b] at hW
    rw [hq_9a]
    rw [xf_per_s hzZ.1.2.1 hzZ.n hk]
    refine W.eq (g2 := F0 m 44 ls [.ref (b + 83 + 2 * k + 34)]) rfl ?_
    refine lv_astore_n (lv' := [(3, .ref (b + 83 + 2 * k + 34)), (2, .ref (b + 1 + 2 * k + 34)), (0, .ref b), (1, .int (nI k))]) hx hb dX6_untilDone_44 rfl hl (by decide) rfl (fun ls hl => ?_)
    refine lv_iconst (v := (nI 1)) hx hb dX6_untilDone_45 (by decide) ?_
    refine lv_istore (lv' := [(4, .int (nI 1)), (3, .ref (b + 83 + 2 * k + 34)), (2, .ref (b + 1 + 2 * k + 34)), (0, .ref b), (1, .int (nI k))]) hx hb dX6_untilDone_46 hl (by decide) rfl (fun ls hl => ?_)
    refine xl_up (σ := Unit) 300 (fun kk zz H locs ls => xw_D G g τ (zm_it (zm_ti (b + 83)) kk Z) H ∧ va_S A s.heap H locs ∧ lv_has ls 5 [(4, .int (nI (kk + 1))), (3, .ref (b + 83 + 2 * k + 34)), (1, .int (nI k)), (0, .ref b)] ∧ zf_ul (b + 83) k 300 0 Z = zf_ul (b + 83) k (300 - kk) kk (zm_it (zm_ti (b + 83)) kk Z)) (fun z48 H locs ls hI => ?_) (fun k48 z48 H locs ls hk48 hI ih48 => ?_) (k0 := 0) (z0 := ()) (Nat.zero_le _) ⟨hW, hS, lv_sub hl [0, 1, 4, 3] rfl, rfl⟩
    · obtain ⟨hW, hS, hl, hE48⟩ := hI
      refine lv_iload hx hb dX6_untilDone_48 (lv_at hl 0 rfl) ?_
      refine lv_sipush (v := (nI 300)) hx hb dX6_untilDone_50 (by decide) ?_
      refine lv_icmp_gt (tgt := 84) hx hb dX6_untilDone_53 (by decide) (fun c_11 => ?_) (fun c_11 => ?_)
      · refine lv_bipush (v := (-6)) hx hb dX6_untilDone_84 (by decide) ?_
        exact W.iret (v := (-6)) hx hb hr (fun t ht hWm => ⟨⟨(-6), (zm_it (zm_ti (b + 83)) 300 Z), rfl, ⟨(by unfold zf_ud; rw [if_neg c_4, ← eZ, hE48]; rfl), zy_tk hzZ hoZ (by omega)⟩, xw_end ht hW⟩, hS.F ht⟩) hS.2.2 dX6_untilDone_86
      · exact absurd (nI_lt (show 300 < 300 + 1 by omega) (by omega)) c_11
    · obtain ⟨hW, hS, hl, hE48⟩ := hI
      have hcut : 300 - k48 = (300 - (k48 + 1)) + 1 := by omega
      refine lv_iload hx hb dX6_untilDone_48 (lv_at hl 0 rfl) ?_
      refine lv_sipush (v := (nI 300)) hx hb dX6_untilDone_50 (by decide) ?_
      refine lv_icmp_gt (tgt := 84) hx hb dX6_untilDone_53 (by decide) (fun c_12 => ?_) (fun c_12 => ?_)
      · exact absurd c_12 (nI_nlt (show k48 + 1 ≤ 300 by omega) (by omega))
      · refine lv_aload_n hx hb dX6_untilDone_56 rfl (lv_at hl 3 rfl) ?_
        refine xg_get (κ := 16) (ci := 6) (C := RX6) (T := TX6) (N := 6) hx hb hts inX6 hown hK hW hτ (by decide) rfl rfl 1 (by decide) (hts (.fieldLink RX6 16 "HalfTickets" "trial" "LHalfTickets$Ministry;") (List.mem_of_getElem? (i := 3) (by decide +kernel))) (fun _ h9 => h9) rfl dX6_untilDone_57 ?_
        refine xc_v (xr_V (As := []) (rest := []) (κ := 1) ⟨hx, hb, hml, hown, hts⟩ (c_X2_tick l O (zm_it (zm_ti (b + 83)) k48 Z) (b + 83) (O.b2 hτ) (zi_tn k48 hzZ (by omega)) (by omega)) (cwV 0 hts gX6_untilDone_X2_tick rfl rfl rfl (by decide +kernel) ⟨Nat.le_of_ble_eq_true rfl, Nat.le_of_ble_eq_true rfl⟩) hK hst hnw hS hW (O.b2 hτ) (by decide) rfl rfl rfl hl.1 rfl (Nat.le_of_ble_eq_true rfl) dX6_untilDone_60 ⟨Nat.zero_le _, Nat.zero_le _⟩) hS (fun M_13 H locs hq_14 hW hS => ?_)
        refine lv_aload_n hx hb dX6_untilDone_63 rfl (lv_at hl 1 rfl) ?_
        refine lv_ifnull hx hb dX6_untilDone_64 ?_
        refine lv_aload_n hx hb dX6_untilDone_67 rfl (lv_at hl 1 rfl) ?_
        refine xg_get (κ := 8) (ci := 4) (C := RX4) (T := TX4) (N := 12) hx hb hts inX4 hown hK hW (O.p (O.b2 hτ) hk24) (by decide) rfl rfl 3 (by decide) (hts (.fieldLink RX6 108 "HalfTickets$Person" "where" "I") (List.mem_of_getElem? (i := 2) (by decide +kernel))) (fun _ h9 => h9) rfl dX6_untilDone_68 ?_
        refine lv_iconst (v := (nI 2)) hx hb dX6_untilDone_71 (by decide) ?_
        refine lv_icmp_ne (tgt := 78) hx hb dX6_untilDone_72 (by decide) (fun c_16 => ?_) (fun c_16 => ?_)
        · refine lv_iinc (v := (nI ((k48 + 1) + 1))) (lv' := [(4, .int (nI ((k48 + 1) + 1))), (3, .ref (b + 83 + 2 * k + 34)), (1, .int (nI k)), (0, .ref b)]) hx hb dX6_untilDone_78 hl (k := 0) rfl ((nI_1 (k48 + 1))) (by decide) rfl (fun ls hl => ?_)
          refine lv_goto (tgt := 48) hx hb dX6_untilDone_81 (by decide) ?_
          rw [hq_14] at hW
          exact ih48 () _ _ _ ⟨hW, hS, lv_sub hl [0, 1, 2, 3] rfl, (by rw [hE48, hcut]; show (if zm_ti (b + 83) (zm_it (zm_ti (b + 83)) k48 Z) (b + 83 + 2 * k + 34) 3 = nI 2 then _ else _) = _; rw [if_neg (by rw [← hq_14]; exact c_16)]; rfl)⟩
        · refine lv_iload hx hb dX6_untilDone_75 (lv_at hl 0 rfl) ?_
          exact W.iret (v := (nI (k48 + 1))) hx hb hr (fun t ht hWm => ⟨⟨(nI (k48 + 1)), M_13, rfl, ⟨(by unfold zf_ud; rw [if_neg c_4, ← eZ, hE48, hcut]; show _ = (if zm_ti (b + 83) (zm_it (zm_ti (b + 83)) k48 Z) (b + 83 + 2 * k + 34) 3 = nI 2 then _ else _); rw [if_pos (by rw [← hq_14]; exact c_16)]), (by rw [hq_14]; exact zy_tk (i := k48 + 1) hzZ hoZ (by omega))⟩, xw_end ht hW⟩, hS.F ht⟩) hS.2.2 dX6_untilDone_77
  · refine lv_iconst (v := (nI 0)) hx hb dX6_untilDone_23 (by decide) ?_
    exact W.iret (v := (nI 0)) hx hb hr (fun t ht hWm => ⟨⟨(nI 0), M, rfl, ⟨(by unfold zf_ud; rw [if_pos c_4]), zy_rf hpN⟩, xw_end ht hW⟩, hS.F ht⟩) hS.2.2 dX6_untilDone_24

set_option maxHeartbeats 4000000 in
set_option maxRecDepth 100000 in
/-- untilDone(k): nobody -/
theorem cz_untilDone_n (l : Launch) {G : va_G} {g : Nat → ClassId} {t0 τ : Nat → Nat} {A : Nat → Prop} (O : xk_O τ A) (M : xm_T) (b : Nat) (hτ : τ b = 16) {nn TT GG BB : Nat} (hz : zi (b + 1) M nn TT GG BB) : Met l yX6_untilDone wsX6_untilDone ({ frames := 5, cells := 0, slots := 0, locals := 160 }) (va_Pc [.ref b, .int (nI nn)] (xS_t G g t0 τ A M)) (va_Qi (fun r M' => r = -1 ∧ M' = M) (fun M' t => xw_D G g τ M' t.heap) A) 0 0 A := by
  refine Met.ofW (cc := cX6_untilDone) (maxL := 5) (ret := (some .int)) (by decide) rfl ?_
  intro p e s m args below meth c s₁ B hml hv
  obtain ⟨rfl, hW, hK, hst, hnw⟩ := hv
  have hx := B.exec
  have hb := B.bytes
  have hr := B.returns
  have hts := atoms_spec (ws := wsX6_untilDone) B.pre
  have hown : s.vm.findClass RX6 = some m.cls := findClass_of_methodNamed B.named
  have hlocks := B.notSynchronized
  have hS : va_S A s.heap s.heap [] := va_S.rf
  have inX4 : ∀ w ∈ u_ws RX4 TX4 12, w ∈ wsX6_untilDone := by decide +kernel
  have inX6 : ∀ w ∈ u_ws RX6 TX6 6, w ∈ wsX6_untilDone := by decide +kernel
  have hl := lv_entry ([.ref b, .int (nI nn)]) (n := 5) (Nat.le_of_ble_eq_true rfl)
  rw [lg_entry_eq]
  generalize (lg_sl ([.ref b, .int (nI nn)]) ++ List.replicate (5 - (lg_sl ([.ref b, .int (nI nn)])).length) Slot.unset).toArray = ls at hl ⊢
  have hl : lv_has ls 5 [(0, .ref b), (1, .int (nI nn))] := hl
  refine lv_aload_n hx hb dX6_untilDone_0 rfl (lv_at hl 0 rfl) ?_
  refine xg_get (κ := 16) (ci := 6) (C := RX6) (T := TX6) (N := 6) hx hb hts inX6 hown hK hW hτ (by decide) rfl rfl 0 (by decide) (hts (.fieldLink RX6 10 "HalfTickets" "now" "LHalfTickets$Ministry;") (List.mem_of_getElem? (i := 1) (by decide +kernel))) (fun _ h9 => h9) rfl dX6_untilDone_1 ?_
  refine lv_iload_n hx hb dX6_untilDone_4 rfl (lv_at hl 1 rfl) ?_
  refine xc_q (xr_V (As := [.int (nI nn)]) (rest := []) (κ := 1) ⟨hx, hb, hml, hown, hts⟩ (c_X2_personAt l O M (b + 1) (O.b1 hτ) (nI nn)) (cwV 1 hts gX6_untilDone_X2_personAt rfl rfl rfl (by decide +kernel) ⟨Nat.le_of_ble_eq_true rfl, Nat.le_of_ble_eq_true rfl⟩) hK hst hnw hS hW (O.b1 hτ) (by decide) rfl rfl rfl hl.1 rfl (Nat.le_of_ble_eq_true rfl) dX6_untilDone_5 ⟨Nat.zero_le _, Nat.zero_le _⟩) hS (fun r_3 M_1 H locs hq_2 hW hS => ?_)
  obtain ⟨hq_2a, hq_2b⟩ := hq_2
  rw [hq_2b] at hW
  rw [hq_2a]
  rw [xf_per_n hz.1.2.1 (Nat.le_refl nn) (by have := hz.n; omega)]
  refine W.eq (g2 := F0 m 8 ls [.null]) rfl ?_
  refine lv_astore_nN (lv' := [(2, .null), (0, .ref b), (1, .int (nI nn))]) hx hb dX6_untilDone_8 rfl hl (by decide) rfl (fun ls hl => ?_)
  refine lv_aload_nN hx hb dX6_untilDone_9 rfl (lv_at hl 0 rfl) ?_
  refine lv_ifnonnullN hx hb dX6_untilDone_10 ?_
  refine lv_iconst (v := (-1)) hx hb dX6_untilDone_13 (by decide) ?_
  exact W.iret (v := (-1)) hx hb hr (fun t ht hWm => ⟨⟨(-1), M, rfl, ⟨rfl, rfl⟩, xw_end ht hW⟩, hS.F ht⟩) hS.2.2 dX6_untilDone_14

set_option maxHeartbeats 4000000 in
set_option maxRecDepth 100000 in
/-- ifPassed(n, j) -/
theorem cz_ifPassed (l : Launch) {G : va_G} {g : Nat → ClassId} {t0 τ : Nat → Nat} {A : Nat → Prop} (O : xk_O τ A) (M : xm_T) (b : Nat) (hτ : τ b = 16) {nn TT BB : Nat} (hz : zi (b + 1) M nn TT TT BB) (hpN : zp_N b M) (hB : BB + 43200 < 2 ^ 31) {n jj : Nat} (hn1 : 1 ≤ n) (hn300 : n ≤ 300) (hj : jj < 4) : Met l yX6_ifPassed wsX6_ifPassed ({ frames := 5, cells := 0, slots := 0, locals := 160 }) (va_Pc [.ref b, .int (nI n), .int (nI jj)] (xS_t G g t0 τ A M)) (va_Qi (fun r M' => r = zf_if (b + 83) (zm_it (zm_ti (b + 83)) n (zy_c b M)) (b + 1) M jj ∧ zy b M M') (fun M' t => xw_D G g τ M' t.heap) A) 0 0 A := by
  refine Met.ofW (cc := cX6_ifPassed) (maxL := 4) (ret := (some .int)) (by decide) rfl ?_
  intro p e s m args below meth c s₁ B hml hv
  obtain ⟨rfl, hW, hK, hst, hnw⟩ := hv
  have hx := B.exec
  have hb := B.bytes
  have hr := B.returns
  have hts := atoms_spec (ws := wsX6_ifPassed) B.pre
  have hown : s.vm.findClass RX6 = some m.cls := findClass_of_methodNamed B.named
  have hlocks := B.notSynchronized
  have hS : va_S A s.heap s.heap [] := va_S.rf
  have inX6 : ∀ w ∈ u_ws RX6 TX6 6, w ∈ wsX6_ifPassed := by decide +kernel
  have hl := lv_entry ([.ref b, .int (nI n), .int (nI jj)]) (n := 4) (Nat.le_of_ble_eq_true rfl)
  rw [lg_entry_eq]
  generalize (lg_sl ([.ref b, .int (nI n), .int (nI jj)]) ++ List.replicate (4 - (lg_sl ([.ref b, .int (nI n), .int (nI jj)])).length) Slot.unset).toArray = ls at hl ⊢
  have hl : lv_has ls 4 [(0, .ref b), (1, .int (nI n)), (2, .int (nI jj))] := hl
  refine lv_iload_n hx hb dX6_ifPassed_0 rfl (lv_at hl 1 rfl) ?_
  refine lv_iconst (v := (nI 1)) hx hb dX6_ifPassed_1 (by decide) ?_
  refine lv_icmp_lt (tgt := 21) hx hb dX6_ifPassed_2 (by decide) (fun c_1 => ?_) (fun c_1 => ?_)
  · exact absurd c_1 (nI_nlt hn1 (by omega))
  · refine lv_iload_n hx hb dX6_ifPassed_5 rfl (lv_at hl 1 rfl) ?_
    refine lv_sipush (v := (nI 300)) hx hb dX6_ifPassed_6 (by decide) ?_
    refine lv_icmp_gt (tgt := 21) hx hb dX6_ifPassed_9 (by decide) (fun c_2 => ?_) (fun c_2 => ?_)
    · exact absurd c_2 (nI_nlt hn300 (by omega))
    · refine lv_iload_n hx hb dX6_ifPassed_12 rfl (lv_at hl 2 rfl) ?_
      refine lv_if_lt (tgt := 21) hx hb dX6_ifPassed_13 (by decide) (fun c_3 => ?_) (fun c_3 => ?_)
      · exact absurd c_3 (nI_pos (by omega))
      · refine lv_iload_n hx hb dX6_ifPassed_16 rfl (lv_at hl 2 rfl) ?_
        refine lv_iconst (v := (nI 3)) hx hb dX6_ifPassed_17 (by decide) ?_
        refine lv_icmp_le (tgt := 24) hx hb dX6_ifPassed_18 (by decide) (fun c_4 => ?_) (fun c_4 => ?_)
        · refine lv_aload_n hx hb dX6_ifPassed_24 rfl (lv_at hl 0 rfl) ?_
          refine xg_get (κ := 16) (ci := 6) (C := RX6) (T := TX6) (N := 6) hx hb hts inX6 hown hK hW hτ (by decide) rfl rfl 1 (by decide) (hts (.fieldLink RX6 16 "HalfTickets" "trial" "LHalfTickets$Ministry;") (List.mem_of_getElem? (i := 1) (by decide +kernel))) (fun _ h9 => h9) rfl dX6_ifPassed_25 ?_
          refine lv_aload_n hx hb dX6_ifPassed_28 rfl (lv_at hl 0 rfl) ?_
          refine xg_get (κ := 16) (ci := 6) (C := RX6) (T := TX6) (N := 6) hx hb hts inX6 hown hK hW hτ (by decide) rfl rfl 0 (by decide) (hts (.fieldLink RX6 10 "HalfTickets" "now" "LHalfTickets$Ministry;") (List.mem_of_getElem? (i := 2) (by decide +kernel))) (fun _ h9 => h9) rfl dX6_ifPassed_29 ?_
          refine xc_v (xr_V (As := [.ref (b + 1)]) (rest := []) (κ := 1) ⟨hx, hb, hml, hown, hts⟩ (c_X2_become l O M (b + 83) (b + 1) (O.b2 hτ) (O.b1 hτ) (by omega) (zp_T hpN)) (cwV 1 hts gX6_ifPassed_X2_become rfl rfl rfl (by decide +kernel) ⟨Nat.le_of_ble_eq_true rfl, Nat.le_of_ble_eq_true rfl⟩) hK hst hnw hS hW (O.b2 hτ) (by decide) rfl rfl rfl hl.1 rfl (Nat.le_of_ble_eq_true rfl) dX6_ifPassed_32 ⟨Nat.zero_le _, Nat.zero_le _⟩) hS (fun M_5 H locs hq_6 hW hS => ?_)
          replace hq_6 : M_5 = zy_c b M := hq_6
          rw [hq_6] at hW
          obtain ⟨Z, eZ⟩ : ∃ Z, Z = zy_c b M := ⟨_, rfl⟩
          rw [← eZ] at hW
          have hzZ : zi (b + 83) Z nn TT TT BB := by rw [eZ]; exact zi_g hz zy_cg
          have hoZ : zz_o (b + 83) (zy_c b M) Z := by rw [eZ]; exact zo_rf
          refine lv_iconst (v := (nI 0)) hx hb dX6_ifPassed_35 (by decide) ?_
          refine lv_istore_n (lv' := [(3, .int (nI 0)), (0, .ref b), (1, .int (nI n)), (2, .int (nI jj))]) hx hb dX6_ifPassed_36 rfl hl (by decide) rfl (fun ls hl => ?_)
          refine xl_up (σ := Unit) n (fun kk zz H locs ls => xw_D G g τ (zm_it (zm_ti (b + 83)) kk Z) H ∧ va_S A s.heap H locs ∧ lv_has ls 4 [(3, .int (nI kk)), (1, .int (nI n)), (2, .int (nI jj)), (0, .ref b)] ∧ True) (fun z37 H locs ls hI => ?_) (fun k37 z37 H locs ls hk37 hI ih37 => ?_) (k0 := 0) (z0 := ()) (Nat.zero_le _) ⟨hW, hS, lv_sub hl [0, 2, 3, 1] rfl, trivial⟩
          · obtain ⟨hW, hS, hl, hE37⟩ := hI
            refine lv_iload_n hx hb dX6_ifPassed_37 rfl (lv_at hl 0 rfl) ?_
            refine lv_iload_n hx hb dX6_ifPassed_38 rfl (lv_at hl 1 rfl) ?_
            refine lv_icmp_ge (tgt := 55) hx hb dX6_ifPassed_39 (by decide) (fun c_8 => ?_) (fun c_8 => ?_)
            · have hzy : zy b M (zm_it (zm_ti (b + 83)) n Z) := zy_tk hzZ hoZ (by omega)
              rcases (show jj = 0 ∨ jj = 1 ∨ jj = 2 ∨ jj = 3 by omega) with rfl | rfl | rfl | rfl
              · refine lv_iload_n hx hb dX6_ifPassed_55 rfl (lv_at hl 2 rfl) ?_
                refine lv_tableIn (off := 28) (tgt := 84) hx hb dX6_ifPassed_56 (by decide) (by decide) (by decide) (by decide) ?_
                refine lv_aload_n hx hb dX6_ifPassed_84 rfl (lv_at hl 3 rfl) ?_
                refine xg_get (κ := 16) (ci := 6) (C := RX6) (T := TX6) (N := 6) hx hb hts inX6 hown hK hW hτ (by decide) rfl rfl 1 (by decide) (hts (.fieldLink RX6 16 "HalfTickets" "trial" "LHalfTickets$Ministry;") (List.mem_of_getElem? (i := 1) (by decide +kernel))) (fun _ h9 => h9) rfl dX6_ifPassed_85 ?_
                refine lv_iconst (v := (nI 2)) hx hb dX6_ifPassed_88 (by decide) ?_
                refine xc_i (xr_V (As := [.int (nI 2)]) (rest := []) (κ := 1) ⟨hx, hb, hml, hown, hts⟩ (c_X2_peopleWho l O (zm_it (zm_ti (b + 83)) n Z) (b + 83) (O.b2 hτ) (nI 2)) (cwV 1 hts gX6_ifPassed_X2_peopleWho rfl rfl rfl (by decide +kernel) ⟨Nat.le_of_ble_eq_true rfl, Nat.le_of_ble_eq_true rfl⟩) hK hst hnw hS hW (O.b2 hτ) (by decide) rfl rfl rfl hl.1 rfl (Nat.le_of_ble_eq_true rfl) dX6_ifPassed_89 ⟨Nat.zero_le _, Nat.zero_le _⟩) hS (fun r_11 M_9 H locs hq_10 hW hS => ?_)
                obtain ⟨hq_10a, hq_10b⟩ := hq_10
                rw [hq_10b] at hW
                replace hq_10a : r_11 = zc_pw (b + 83) (nI 2) (zm_it (zm_ti (b + 83)) n Z) := hq_10a
                rw [hq_10a]
                refine lv_aload_n hx hb dX6_ifPassed_92 rfl (lv_at hl 3 rfl) ?_
                refine xg_get (κ := 16) (ci := 6) (C := RX6) (T := TX6) (N := 6) hx hb hts inX6 hown hK hW hτ (by decide) rfl rfl 0 (by decide) (hts (.fieldLink RX6 10 "HalfTickets" "now" "LHalfTickets$Ministry;") (List.mem_of_getElem? (i := 2) (by decide +kernel))) (fun _ h9 => h9) rfl dX6_ifPassed_93 ?_
                refine lv_iconst (v := (nI 2)) hx hb dX6_ifPassed_96 (by decide) ?_
                refine xc_i (xr_V (As := [.int (nI 2)]) (rest := [.int (zc_pw (b + 83) (nI 2) (zm_it (zm_ti (b + 83)) n Z))]) (κ := 1) ⟨hx, hb, hml, hown, hts⟩ (c_X2_peopleWho l O (zm_it (zm_ti (b + 83)) n Z) (b + 1) (O.b1 hτ) (nI 2)) (cwV 1 hts gX6_ifPassed_X2_peopleWho rfl rfl rfl (by decide +kernel) ⟨Nat.le_of_ble_eq_true rfl, Nat.le_of_ble_eq_true rfl⟩) hK hst hnw hS hW (O.b1 hτ) (by decide) rfl rfl rfl hl.1 rfl (Nat.le_of_ble_eq_true rfl) dX6_ifPassed_97 ⟨Nat.zero_le _, Nat.zero_le _⟩) hS (fun r_14 M_12 H locs hq_13 hW hS => ?_)
                obtain ⟨hq_13a, hq_13b⟩ := hq_13
                rw [hq_13b] at hW
                replace hq_13a : r_14 = zc_pw (b + 1) (nI 2) (zm_it (zm_ti (b + 83)) n Z) := hq_13a
                rw [show zc_pw (b + 1) (nI 2) (zm_it (zm_ti (b + 83)) n Z) = zc_pw (b + 1) (nI 2) M from zg_pw hzy.g _] at hq_13a
                rw [hq_13a]
                refine lv_isub hx hb dX6_ifPassed_100 ?_
                exact W.iret (v := ((zc_pw (b + 83) (nI 2) (zm_it (zm_ti (b + 83)) n Z)) - (zc_pw (b + 1) (nI 2) M))) hx hb hr (fun t ht hWm => ⟨⟨((zc_pw (b + 83) (nI 2) (zm_it (zm_ti (b + 83)) n Z)) - (zc_pw (b + 1) (nI 2) M)), (zm_it (zm_ti (b + 83)) n Z), rfl, ⟨(by rw [← eZ]; rfl), hzy⟩, xw_end ht hW⟩, hS.F ht⟩) hS.2.2 dX6_ifPassed_101
              · refine lv_iload_n hx hb dX6_ifPassed_55 rfl (lv_at hl 2 rfl) ?_
                refine lv_tableIn (off := 46) (tgt := 102) hx hb dX6_ifPassed_56 (by decide) (by decide) (by decide) (by decide) ?_
                refine lv_aload_n hx hb dX6_ifPassed_102 rfl (lv_at hl 3 rfl) ?_
                refine xg_get (κ := 16) (ci := 6) (C := RX6) (T := TX6) (N := 6) hx hb hts inX6 hown hK hW hτ (by decide) rfl rfl 1 (by decide) (hts (.fieldLink RX6 16 "HalfTickets" "trial" "LHalfTickets$Ministry;") (List.mem_of_getElem? (i := 1) (by decide +kernel))) (fun _ h9 => h9) rfl dX6_ifPassed_103 ?_
                refine lv_iconst (v := (nI 3)) hx hb dX6_ifPassed_106 (by decide) ?_
                refine xc_i (xr_V (As := [.int (nI 3)]) (rest := []) (κ := 1) ⟨hx, hb, hml, hown, hts⟩ (c_X2_peopleWho l O (zm_it (zm_ti (b + 83)) n Z) (b + 83) (O.b2 hτ) (nI 3)) (cwV 1 hts gX6_ifPassed_X2_peopleWho rfl rfl rfl (by decide +kernel) ⟨Nat.le_of_ble_eq_true rfl, Nat.le_of_ble_eq_true rfl⟩) hK hst hnw hS hW (O.b2 hτ) (by decide) rfl rfl rfl hl.1 rfl (Nat.le_of_ble_eq_true rfl) dX6_ifPassed_107 ⟨Nat.zero_le _, Nat.zero_le _⟩) hS (fun r_17 M_15 H locs hq_16 hW hS => ?_)
                obtain ⟨hq_16a, hq_16b⟩ := hq_16
                rw [hq_16b] at hW
                replace hq_16a : r_17 = zc_pw (b + 83) (nI 3) (zm_it (zm_ti (b + 83)) n Z) := hq_16a
                rw [hq_16a]
                refine lv_aload_n hx hb dX6_ifPassed_110 rfl (lv_at hl 3 rfl) ?_
                refine xg_get (κ := 16) (ci := 6) (C := RX6) (T := TX6) (N := 6) hx hb hts inX6 hown hK hW hτ (by decide) rfl rfl 0 (by decide) (hts (.fieldLink RX6 10 "HalfTickets" "now" "LHalfTickets$Ministry;") (List.mem_of_getElem? (i := 2) (by decide +kernel))) (fun _ h9 => h9) rfl dX6_ifPassed_111 ?_
                refine lv_iconst (v := (nI 3)) hx hb dX6_ifPassed_114 (by decide) ?_
                refine xc_i (xr_V (As := [.int (nI 3)]) (rest := [.int (zc_pw (b + 83) (nI 3) (zm_it (zm_ti (b + 83)) n Z))]) (κ := 1) ⟨hx, hb, hml, hown, hts⟩ (c_X2_peopleWho l O (zm_it (zm_ti (b + 83)) n Z) (b + 1) (O.b1 hτ) (nI 3)) (cwV 1 hts gX6_ifPassed_X2_peopleWho rfl rfl rfl (by decide +kernel) ⟨Nat.le_of_ble_eq_true rfl, Nat.le_of_ble_eq_true rfl⟩) hK hst hnw hS hW (O.b1 hτ) (by decide) rfl rfl rfl hl.1 rfl (Nat.le_of_ble_eq_true rfl) dX6_ifPassed_115 ⟨Nat.zero_le _, Nat.zero_le _⟩) hS (fun r_20 M_18 H locs hq_19 hW hS => ?_)
                obtain ⟨hq_19a, hq_19b⟩ := hq_19
                rw [hq_19b] at hW
                replace hq_19a : r_20 = zc_pw (b + 1) (nI 3) (zm_it (zm_ti (b + 83)) n Z) := hq_19a
                rw [show zc_pw (b + 1) (nI 3) (zm_it (zm_ti (b + 83)) n Z) = zc_pw (b + 1) (nI 3) M from zg_pw hzy.g _] at hq_19a
                rw [hq_19a]
                refine lv_isub hx hb dX6_ifPassed_118 ?_
                exact W.iret (v := ((zc_pw (b + 83) (nI 3) (zm_it (zm_ti (b + 83)) n Z)) - (zc_pw (b + 1) (nI 3) M))) hx hb hr (fun t ht hWm => ⟨⟨((zc_pw (b + 83) (nI 3) (zm_it (zm_ti (b + 83)) n Z)) - (zc_pw (b + 1) (nI 3) M)), (zm_it (zm_ti (b + 83)) n Z), rfl, ⟨(by rw [← eZ]; rfl), hzy⟩, xw_end ht hW⟩, hS.F ht⟩) hS.2.2 dX6_ifPassed_119
              · refine lv_iload_n hx hb dX6_ifPassed_55 rfl (lv_at hl 2 rfl) ?_
                refine lv_tableIn (off := 64) (tgt := 120) hx hb dX6_ifPassed_56 (by decide) (by decide) (by decide) (by decide) ?_
                refine lv_aload_n hx hb dX6_ifPassed_120 rfl (lv_at hl 3 rfl) ?_
                refine xg_get (κ := 16) (ci := 6) (C := RX6) (T := TX6) (N := 6) hx hb hts inX6 hown hK hW hτ (by decide) rfl rfl 1 (by decide) (hts (.fieldLink RX6 16 "HalfTickets" "trial" "LHalfTickets$Ministry;") (List.mem_of_getElem? (i := 1) (by decide +kernel))) (fun _ h9 => h9) rfl dX6_ifPassed_121 ?_
                refine xc_i (xr_V (As := []) (rest := []) (κ := 1) ⟨hx, hb, hml, hown, hts⟩ (c_X2_waits l O (zm_it (zm_ti (b + 83)) n Z) (b + 83) (O.b2 hτ)) (cwV 0 hts gX6_ifPassed_X2_waits rfl rfl rfl (by decide +kernel) ⟨Nat.le_of_ble_eq_true rfl, Nat.le_of_ble_eq_true rfl⟩) hK hst hnw hS hW (O.b2 hτ) (by decide) rfl rfl rfl hl.1 rfl (Nat.le_of_ble_eq_true rfl) dX6_ifPassed_124 ⟨Nat.zero_le _, Nat.zero_le _⟩) hS (fun r_23 M_21 H locs hq_22 hW hS => ?_)
                obtain ⟨hq_22a, hq_22b⟩ := hq_22
                rw [hq_22b] at hW
                replace hq_22a : r_23 = zc_wt (b + 83) (zm_it (zm_ti (b + 83)) n Z) := hq_22a
                rw [hq_22a]
                refine lv_aload_n hx hb dX6_ifPassed_127 rfl (lv_at hl 3 rfl) ?_
                refine xg_get (κ := 16) (ci := 6) (C := RX6) (T := TX6) (N := 6) hx hb hts inX6 hown hK hW hτ (by decide) rfl rfl 0 (by decide) (hts (.fieldLink RX6 10 "HalfTickets" "now" "LHalfTickets$Ministry;") (List.mem_of_getElem? (i := 2) (by decide +kernel))) (fun _ h9 => h9) rfl dX6_ifPassed_128 ?_
                refine xc_i (xr_V (As := []) (rest := [.int (zc_wt (b + 83) (zm_it (zm_ti (b + 83)) n Z))]) (κ := 1) ⟨hx, hb, hml, hown, hts⟩ (c_X2_waits l O (zm_it (zm_ti (b + 83)) n Z) (b + 1) (O.b1 hτ)) (cwV 0 hts gX6_ifPassed_X2_waits rfl rfl rfl (by decide +kernel) ⟨Nat.le_of_ble_eq_true rfl, Nat.le_of_ble_eq_true rfl⟩) hK hst hnw hS hW (O.b1 hτ) (by decide) rfl rfl rfl hl.1 rfl (Nat.le_of_ble_eq_true rfl) dX6_ifPassed_131 ⟨Nat.zero_le _, Nat.zero_le _⟩) hS (fun r_26 M_24 H locs hq_25 hW hS => ?_)
                obtain ⟨hq_25a, hq_25b⟩ := hq_25
                rw [hq_25b] at hW
                replace hq_25a : r_26 = zc_wt (b + 1) (zm_it (zm_ti (b + 83)) n Z) := hq_25a
                rw [show zc_wt (b + 1) (zm_it (zm_ti (b + 83)) n Z) = zc_wt (b + 1) M from zg_wt hzy.g] at hq_25a
                rw [hq_25a]
                refine lv_isub hx hb dX6_ifPassed_134 ?_
                exact W.iret (v := ((zc_wt (b + 83) (zm_it (zm_ti (b + 83)) n Z)) - (zc_wt (b + 1) M))) hx hb hr (fun t ht hWm => ⟨⟨((zc_wt (b + 83) (zm_it (zm_ti (b + 83)) n Z)) - (zc_wt (b + 1) M)), (zm_it (zm_ti (b + 83)) n Z), rfl, ⟨(by rw [← eZ]; rfl), hzy⟩, xw_end ht hW⟩, hS.F ht⟩) hS.2.2 dX6_ifPassed_135
              · refine lv_iload_n hx hb dX6_ifPassed_55 rfl (lv_at hl 2 rfl) ?_
                refine lv_tableOut (tgt := 136) hx hb dX6_ifPassed_56 (by decide) (by decide) ?_
                refine lv_aload_n hx hb dX6_ifPassed_136 rfl (lv_at hl 3 rfl) ?_
                refine xg_get (κ := 16) (ci := 6) (C := RX6) (T := TX6) (N := 6) hx hb hts inX6 hown hK hW hτ (by decide) rfl rfl 1 (by decide) (hts (.fieldLink RX6 16 "HalfTickets" "trial" "LHalfTickets$Ministry;") (List.mem_of_getElem? (i := 1) (by decide +kernel))) (fun _ h9 => h9) rfl dX6_ifPassed_137 ?_
                refine xc_i (xr_V (As := []) (rest := []) (κ := 1) ⟨hx, hb, hml, hown, hts⟩ (c_X2_timesSentBack l O (zm_it (zm_ti (b + 83)) n Z) (b + 83) (O.b2 hτ)) (cwV 0 hts gX6_ifPassed_X2_timesSentBack rfl rfl rfl (by decide +kernel) ⟨Nat.le_of_ble_eq_true rfl, Nat.le_of_ble_eq_true rfl⟩) hK hst hnw hS hW (O.b2 hτ) (by decide) rfl rfl rfl hl.1 rfl (Nat.le_of_ble_eq_true rfl) dX6_ifPassed_140 ⟨Nat.zero_le _, Nat.zero_le _⟩) hS (fun r_29 M_27 H locs hq_28 hW hS => ?_)
                obtain ⟨hq_28a, hq_28b⟩ := hq_28
                rw [hq_28b] at hW
                replace hq_28a : r_29 = zc_bk (b + 83) (zm_it (zm_ti (b + 83)) n Z) := hq_28a
                rw [hq_28a]
                refine lv_aload_n hx hb dX6_ifPassed_143 rfl (lv_at hl 3 rfl) ?_
                refine xg_get (κ := 16) (ci := 6) (C := RX6) (T := TX6) (N := 6) hx hb hts inX6 hown hK hW hτ (by decide) rfl rfl 0 (by decide) (hts (.fieldLink RX6 10 "HalfTickets" "now" "LHalfTickets$Ministry;") (List.mem_of_getElem? (i := 2) (by decide +kernel))) (fun _ h9 => h9) rfl dX6_ifPassed_144 ?_
                refine xc_i (xr_V (As := []) (rest := [.int (zc_bk (b + 83) (zm_it (zm_ti (b + 83)) n Z))]) (κ := 1) ⟨hx, hb, hml, hown, hts⟩ (c_X2_timesSentBack l O (zm_it (zm_ti (b + 83)) n Z) (b + 1) (O.b1 hτ)) (cwV 0 hts gX6_ifPassed_X2_timesSentBack rfl rfl rfl (by decide +kernel) ⟨Nat.le_of_ble_eq_true rfl, Nat.le_of_ble_eq_true rfl⟩) hK hst hnw hS hW (O.b1 hτ) (by decide) rfl rfl rfl hl.1 rfl (Nat.le_of_ble_eq_true rfl) dX6_ifPassed_147 ⟨Nat.zero_le _, Nat.zero_le _⟩) hS (fun r_32 M_30 H locs hq_31 hW hS => ?_)
                obtain ⟨hq_31a, hq_31b⟩ := hq_31
                rw [hq_31b] at hW
                replace hq_31a : r_32 = zc_bk (b + 1) (zm_it (zm_ti (b + 83)) n Z) := hq_31a
                rw [show zc_bk (b + 1) (zm_it (zm_ti (b + 83)) n Z) = zc_bk (b + 1) M from zg_sb hzy.g] at hq_31a
                rw [hq_31a]
                refine lv_isub hx hb dX6_ifPassed_150 ?_
                exact W.iret (v := ((zc_bk (b + 83) (zm_it (zm_ti (b + 83)) n Z)) - (zc_bk (b + 1) M))) hx hb hr (fun t ht hWm => ⟨⟨((zc_bk (b + 83) (zm_it (zm_ti (b + 83)) n Z)) - (zc_bk (b + 1) M)), (zm_it (zm_ti (b + 83)) n Z), rfl, ⟨(by rw [← eZ]; rfl), hzy⟩, xw_end ht hW⟩, hS.F ht⟩) hS.2.2 dX6_ifPassed_151
            · exact absurd (nI_le (Nat.le_refl _) (by omega)) c_8
          · obtain ⟨hW, hS, hl, hE37⟩ := hI
            refine lv_iload_n hx hb dX6_ifPassed_37 rfl (lv_at hl 0 rfl) ?_
            refine lv_iload_n hx hb dX6_ifPassed_38 rfl (lv_at hl 1 rfl) ?_
            refine lv_icmp_ge (tgt := 55) hx hb dX6_ifPassed_39 (by decide) (fun c_33 => ?_) (fun c_33 => ?_)
            · exact absurd c_33 (nI_ge hk37 (by omega))
            · refine lv_aload_n hx hb dX6_ifPassed_42 rfl (lv_at hl 3 rfl) ?_
              refine xg_get (κ := 16) (ci := 6) (C := RX6) (T := TX6) (N := 6) hx hb hts inX6 hown hK hW hτ (by decide) rfl rfl 1 (by decide) (hts (.fieldLink RX6 16 "HalfTickets" "trial" "LHalfTickets$Ministry;") (List.mem_of_getElem? (i := 1) (by decide +kernel))) (fun _ h9 => h9) rfl dX6_ifPassed_43 ?_
              refine xc_v (xr_V (As := []) (rest := []) (κ := 1) ⟨hx, hb, hml, hown, hts⟩ (c_X2_tick l O (zm_it (zm_ti (b + 83)) k37 Z) (b + 83) (O.b2 hτ) (zi_tn k37 hzZ (by omega)) (by omega)) (cwV 0 hts gX6_ifPassed_X2_tick rfl rfl rfl (by decide +kernel) ⟨Nat.le_of_ble_eq_true rfl, Nat.le_of_ble_eq_true rfl⟩) hK hst hnw hS hW (O.b2 hτ) (by decide) rfl rfl rfl hl.1 rfl (Nat.le_of_ble_eq_true rfl) dX6_ifPassed_46 ⟨Nat.zero_le _, Nat.zero_le _⟩) hS (fun M_34 H locs hq_35 hW hS => ?_)
              refine lv_iinc (v := (nI (k37 + 1))) (lv' := [(3, .int (nI (k37 + 1))), (1, .int (nI n)), (2, .int (nI jj)), (0, .ref b)]) hx hb dX6_ifPassed_49 hl (k := 0) rfl ((nI_1 k37)) (by decide) rfl (fun ls hl => ?_)
              refine lv_goto (tgt := 37) hx hb dX6_ifPassed_52 (by decide) ?_
              rw [hq_35] at hW
              exact ih37 () _ _ _ ⟨hW, hS, lv_sub hl [0, 1, 2, 3] rfl, trivial⟩
        · exact absurd (nI_le (show jj ≤ 3 by omega) (by omega)) c_4

set_option maxHeartbeats 4000000 in
set_option maxRecDepth 100000 in
/-- doneWithOneMoreAt(y) -/
theorem cz_doneWithOneMoreAt (l : Launch) {G : va_G} {g : Nat → ClassId} {t0 τ : Nat → Nat} {A : Nat → Prop} (O : xk_O τ A) (M : xm_T) (b : Nat) (hτ : τ b = 16) {nn TT BB : Nat} (hz : zi (b + 1) M nn TT TT BB) (hpN : zp_N b M) (hB : BB + 43200 < 2 ^ 31) {y : Int32} {wq : Nat} (hy : xf_win (b + 83) y = if wq < 6 then some (b + 83 + 5 * wq + 4) else none) : Met l yX6_doneWithOneMoreAt wsX6_doneWithOneMoreAt ({ frames := 5, cells := 0, slots := 0, locals := 160 }) (va_Pc [.ref b, .int y] (xS_t G g t0 τ A M)) (va_Qi (fun r M' => r = zf_dn (b + 83) wq (zy_c b M) ∧ zy b M M') (fun M' t => xw_D G g τ M' t.heap) A) 0 0 A := by
  refine Met.ofW (cc := cX6_doneWithOneMoreAt) (maxL := 4) (ret := (some .int)) (by decide) rfl ?_
  intro p e s m args below meth c s₁ B hml hv
  obtain ⟨rfl, hW, hK, hst, hnw⟩ := hv
  have hx := B.exec
  have hb := B.bytes
  have hr := B.returns
  have hts := atoms_spec (ws := wsX6_doneWithOneMoreAt) B.pre
  have hown : s.vm.findClass RX6 = some m.cls := findClass_of_methodNamed B.named
  have hlocks := B.notSynchronized
  have hS : va_S A s.heap s.heap [] := va_S.rf
  have inX5 : ∀ w ∈ u_ws RX5 TX5 7, w ∈ wsX6_doneWithOneMoreAt := by decide +kernel
  have inX6 : ∀ w ∈ u_ws RX6 TX6 6, w ∈ wsX6_doneWithOneMoreAt := by decide +kernel
  have hl := lv_entry ([.ref b, .int y]) (n := 4) (Nat.le_of_ble_eq_true rfl)
  rw [lg_entry_eq]
  generalize (lg_sl ([.ref b, .int y]) ++ List.replicate (4 - (lg_sl ([.ref b, .int y])).length) Slot.unset).toArray = ls at hl ⊢
  have hl : lv_has ls 4 [(0, .ref b), (1, .int y)] := hl
  refine lv_aload_n hx hb dX6_doneWithOneMoreAt_0 rfl (lv_at hl 0 rfl) ?_
  refine xg_get (κ := 16) (ci := 6) (C := RX6) (T := TX6) (N := 6) hx hb hts inX6 hown hK hW hτ (by decide) rfl rfl 1 (by decide) (hts (.fieldLink RX6 16 "HalfTickets" "trial" "LHalfTickets$Ministry;") (List.mem_of_getElem? (i := 1) (by decide +kernel))) (fun _ h9 => h9) rfl dX6_doneWithOneMoreAt_1 ?_
  refine lv_aload_n hx hb dX6_doneWithOneMoreAt_4 rfl (lv_at hl 0 rfl) ?_
  refine xg_get (κ := 16) (ci := 6) (C := RX6) (T := TX6) (N := 6) hx hb hts inX6 hown hK hW hτ (by decide) rfl rfl 0 (by decide) (hts (.fieldLink RX6 10 "HalfTickets" "now" "LHalfTickets$Ministry;") (List.mem_of_getElem? (i := 2) (by decide +kernel))) (fun _ h9 => h9) rfl dX6_doneWithOneMoreAt_5 ?_
  refine xc_v (xr_V (As := [.ref (b + 1)]) (rest := []) (κ := 1) ⟨hx, hb, hml, hown, hts⟩ (c_X2_become l O M (b + 83) (b + 1) (O.b2 hτ) (O.b1 hτ) (by omega) (zp_T hpN)) (cwV 1 hts gX6_doneWithOneMoreAt_X2_become rfl rfl rfl (by decide +kernel) ⟨Nat.le_of_ble_eq_true rfl, Nat.le_of_ble_eq_true rfl⟩) hK hst hnw hS hW (O.b2 hτ) (by decide) rfl rfl rfl hl.1 rfl (Nat.le_of_ble_eq_true rfl) dX6_doneWithOneMoreAt_8 ⟨Nat.zero_le _, Nat.zero_le _⟩) hS (fun M_1 H locs hq_2 hW hS => ?_)
  replace hq_2 : M_1 = zy_c b M := hq_2
  rw [hq_2] at hW
  obtain ⟨Z, eZ⟩ : ∃ Z, Z = zy_c b M := ⟨_, rfl⟩
  rw [← eZ] at hW
  have hzZ : zi (b + 83) Z nn TT TT BB := by rw [eZ]; exact zi_g hz zy_cg
  have hoZ : zz_o (b + 83) (zy_c b M) Z := by rw [eZ]; exact zo_rf
  refine lv_aload_n hx hb dX6_doneWithOneMoreAt_11 rfl (lv_at hl 0 rfl) ?_
  refine xg_get (κ := 16) (ci := 6) (C := RX6) (T := TX6) (N := 6) hx hb hts inX6 hown hK hW hτ (by decide) rfl rfl 1 (by decide) (hts (.fieldLink RX6 16 "HalfTickets" "trial" "LHalfTickets$Ministry;") (List.mem_of_getElem? (i := 1) (by decide +kernel))) (fun _ h9 => h9) rfl dX6_doneWithOneMoreAt_12 ?_
  refine lv_iload_n hx hb dX6_doneWithOneMoreAt_15 rfl (lv_at hl 1 rfl) ?_
  refine xc_q (xr_V (As := [.int y]) (rest := []) (κ := 1) ⟨hx, hb, hml, hown, hts⟩ (c_X2_windowAt l O Z (b + 83) (O.b2 hτ) y) (cwV 1 hts gX6_doneWithOneMoreAt_X2_windowAt rfl rfl rfl (by decide +kernel) ⟨Nat.le_of_ble_eq_true rfl, Nat.le_of_ble_eq_true rfl⟩) hK hst hnw hS hW (O.b2 hτ) (by decide) rfl rfl rfl hl.1 rfl (Nat.le_of_ble_eq_true rfl) dX6_doneWithOneMoreAt_16 ⟨Nat.zero_le _, Nat.zero_le _⟩) hS (fun r_6 M_4 H locs hq_5 hW hS => ?_)
  obtain ⟨hq_5a, hq_5b⟩ := hq_5
  rw [hq_5b] at hW
  rw [hq_5a]
  rw [hy]
  rcases Nat.lt_or_ge wq 6 with hw | hw
  · rw [if_pos hw]
    refine W.eq (g2 := F0 m 19 ls [.ref (b + 83 + 5 * wq + 4)]) rfl ?_
    refine lv_astore_n (lv' := [(2, .ref (b + 83 + 5 * wq + 4)), (0, .ref b), (1, .int y)]) hx hb dX6_doneWithOneMoreAt_19 rfl hl (by decide) rfl (fun ls hl => ?_)
    refine lv_aload_n hx hb dX6_doneWithOneMoreAt_20 rfl (lv_at hl 0 rfl) ?_
    refine lv_ifnull hx hb dX6_doneWithOneMoreAt_21 ?_
    refine lv_aload_n hx hb dX6_doneWithOneMoreAt_24 rfl (lv_at hl 0 rfl) ?_
    refine lv_dup hx hb dX6_doneWithOneMoreAt_25 rfl ?_
    refine xg_get (κ := 5) (ci := 5) (C := RX5) (T := TX5) (N := 7) hx hb hts inX5 hown hK hW (O.w (O.b2 hτ) hw) (by decide) rfl rfl 1 (by decide) (hts (.fieldLink RX6 72 "HalfTickets$Window" "clerks" "I") (List.mem_of_getElem? (i := 3) (by decide +kernel))) (fun _ h9 => h9) rfl dX6_doneWithOneMoreAt_26 ?_
    refine lv_iconst (v := (nI 1)) hx hb dX6_doneWithOneMoreAt_29 (by decide) ?_
    refine lv_iadd hx hb dX6_doneWithOneMoreAt_30 ?_
    refine xg_put (κ := 5) (ci := 5) (C := RX5) (T := TX5) (N := 7) hx hb hts inX5 tyX5 tyX5_ok nmX5 hown hK O hW hS (O.w (O.b2 hτ) hw) (by decide) rfl rfl 1 (by decide) (v := ((Z (b + 83 + 5 * wq + 4) 1) + (nI 1))) rfl (xw_okp hW (O.w (O.b2 hτ) hw) (by decide)) (hts (.fieldLink RX6 72 "HalfTickets$Window" "clerks" "I") (List.mem_of_getElem? (i := 3) (by decide +kernel))) (fun _ h9 => h9) rfl (ty := .int) (by decide +kernel) rfl rfl (Nat.le_of_ble_eq_true rfl) dX6_doneWithOneMoreAt_31 (fun H locs hW hS => ?_)
    obtain ⟨M_7, eM_7⟩ : ∃ M9, M9 = xu_p Z (b + 83 + 5 * wq + 4) 1 ((Z (b + 83 + 5 * wq + 4) 1) + (nI 1)) := ⟨_, rfl⟩
    rw [← eM_7] at hW
    have eY : M_7 = zf_c1 (b + 83) wq Z := by unfold zf_c1; rw [if_pos hw, eM_7]
    rw [eY] at hW
    obtain ⟨Y, eY2⟩ : ∃ Y, Y = zf_c1 (b + 83) wq Z := ⟨_, rfl⟩
    rw [← eY2] at hW
    have hzY : zi (b + 83) Y nn TT TT BB := by rw [eY2]; exact zi_c1 hzZ
    have hoY : zz_o (b + 83) (zy_c b M) Y := by rw [eY2, eZ]; exact zo_c1
    refine lv_iconst (v := (nI 0)) hx hb dX6_doneWithOneMoreAt_34 (by decide) ?_
    refine lv_istore_n (lv' := [(3, .int (nI 0)), (2, .ref (b + 83 + 5 * wq + 4)), (0, .ref b), (1, .int y)]) hx hb dX6_doneWithOneMoreAt_35 rfl hl (by decide) rfl (fun ls hl => ?_)
    refine xl_up (σ := Unit) 50 (fun kk zz H locs ls => xw_D G g τ (zm_it (zm_ti (b + 83)) kk Y) H ∧ va_S A s.heap H locs ∧ lv_has ls 4 [(3, .int (nI kk)), (0, .ref b)] ∧ True) (fun z36 H locs ls hI => ?_) (fun k36 z36 H locs ls hk36 hI ih36 => ?_) (k0 := 0) (z0 := ()) (Nat.zero_le _) ⟨hW, hS, lv_sub hl [0, 2] rfl, trivial⟩
    · obtain ⟨hW, hS, hl, hE36⟩ := hI
      refine lv_iload_n hx hb dX6_doneWithOneMoreAt_36 rfl (lv_at hl 0 rfl) ?_
      refine lv_bipush (v := (nI 50)) hx hb dX6_doneWithOneMoreAt_37 (by decide) ?_
      refine lv_icmp_ge (tgt := 55) hx hb dX6_doneWithOneMoreAt_39 (by decide) (fun c_8 => ?_) (fun c_8 => ?_)
      · refine lv_aload_n hx hb dX6_doneWithOneMoreAt_55 rfl (lv_at hl 1 rfl) ?_
        refine xg_get (κ := 16) (ci := 6) (C := RX6) (T := TX6) (N := 6) hx hb hts inX6 hown hK hW hτ (by decide) rfl rfl 1 (by decide) (hts (.fieldLink RX6 16 "HalfTickets" "trial" "LHalfTickets$Ministry;") (List.mem_of_getElem? (i := 1) (by decide +kernel))) (fun _ h9 => h9) rfl dX6_doneWithOneMoreAt_56 ?_
        refine lv_iconst (v := (nI 2)) hx hb dX6_doneWithOneMoreAt_59 (by decide) ?_
        refine xc_i (xr_V (As := [.int (nI 2)]) (rest := []) (κ := 1) ⟨hx, hb, hml, hown, hts⟩ (c_X2_peopleWho l O (zm_it (zm_ti (b + 83)) 50 Y) (b + 83) (O.b2 hτ) (nI 2)) (cwV 1 hts gX6_doneWithOneMoreAt_X2_peopleWho rfl rfl rfl (by decide +kernel) ⟨Nat.le_of_ble_eq_true rfl, Nat.le_of_ble_eq_true rfl⟩) hK hst hnw hS hW (O.b2 hτ) (by decide) rfl rfl rfl hl.1 rfl (Nat.le_of_ble_eq_true rfl) dX6_doneWithOneMoreAt_60 ⟨Nat.zero_le _, Nat.zero_le _⟩) hS (fun r_11 M_9 H locs hq_10 hW hS => ?_)
        obtain ⟨hq_10a, hq_10b⟩ := hq_10
        rw [hq_10b] at hW
        rw [hq_10a]
        exact W.iret (v := (zc_pw (b + 83) (nI 2) (zm_it (zm_ti (b + 83)) 50 Y))) hx hb hr (fun t ht hWm => ⟨⟨(zc_pw (b + 83) (nI 2) (zm_it (zm_ti (b + 83)) 50 Y)), (zm_it (zm_ti (b + 83)) 50 Y), rfl, ⟨(by unfold zf_dn; rw [← eZ, ← eY2]), zy_tk hzY hoY (by omega)⟩, xw_end ht hW⟩, hS.F ht⟩) hS.2.2 dX6_doneWithOneMoreAt_63
      · exact absurd (nI_le (Nat.le_refl _) (by decide)) c_8
    · obtain ⟨hW, hS, hl, hE36⟩ := hI
      refine lv_iload_n hx hb dX6_doneWithOneMoreAt_36 rfl (lv_at hl 0 rfl) ?_
      refine lv_bipush (v := (nI 50)) hx hb dX6_doneWithOneMoreAt_37 (by decide) ?_
      refine lv_icmp_ge (tgt := 55) hx hb dX6_doneWithOneMoreAt_39 (by decide) (fun c_12 => ?_) (fun c_12 => ?_)
      · exact absurd c_12 (nI_ge hk36 (by decide))
      · refine lv_aload_n hx hb dX6_doneWithOneMoreAt_42 rfl (lv_at hl 1 rfl) ?_
        refine xg_get (κ := 16) (ci := 6) (C := RX6) (T := TX6) (N := 6) hx hb hts inX6 hown hK hW hτ (by decide) rfl rfl 1 (by decide) (hts (.fieldLink RX6 16 "HalfTickets" "trial" "LHalfTickets$Ministry;") (List.mem_of_getElem? (i := 1) (by decide +kernel))) (fun _ h9 => h9) rfl dX6_doneWithOneMoreAt_43 ?_
        refine xc_v (xr_V (As := []) (rest := []) (κ := 1) ⟨hx, hb, hml, hown, hts⟩ (c_X2_tick l O (zm_it (zm_ti (b + 83)) k36 Y) (b + 83) (O.b2 hτ) (zi_tn k36 hzY (by omega)) (by omega)) (cwV 0 hts gX6_doneWithOneMoreAt_X2_tick rfl rfl rfl (by decide +kernel) ⟨Nat.le_of_ble_eq_true rfl, Nat.le_of_ble_eq_true rfl⟩) hK hst hnw hS hW (O.b2 hτ) (by decide) rfl rfl rfl hl.1 rfl (Nat.le_of_ble_eq_true rfl) dX6_doneWithOneMoreAt_46 ⟨Nat.zero_le _, Nat.zero_le _⟩) hS (fun M_13 H locs hq_14 hW hS => ?_)
        refine lv_iinc (v := (nI (k36 + 1))) (lv' := [(3, .int (nI (k36 + 1))), (0, .ref b)]) hx hb dX6_doneWithOneMoreAt_49 hl (k := 0) rfl ((nI_1 k36)) (by decide) rfl (fun ls hl => ?_)
        refine lv_goto (tgt := 36) hx hb dX6_doneWithOneMoreAt_52 (by decide) ?_
        rw [hq_14] at hW
        exact ih36 () _ _ _ ⟨hW, hS, lv_sub hl [0, 1] rfl, trivial⟩
  · rw [if_neg (by omega)]
    refine W.eq (g2 := F0 m 19 ls [.null]) rfl ?_
    refine lv_astore_nN (lv' := [(2, .null), (0, .ref b), (1, .int y)]) hx hb dX6_doneWithOneMoreAt_19 rfl hl (by decide) rfl (fun ls hl => ?_)
    refine lv_aload_nN hx hb dX6_doneWithOneMoreAt_20 rfl (lv_at hl 0 rfl) ?_
    refine lv_ifnullN (tgt := 34) hx hb dX6_doneWithOneMoreAt_21 (by decide) ?_
    have eY : Z = zf_c1 (b + 83) wq Z := by unfold zf_c1; rw [if_neg (by omega)]
    rw [eY] at hW
    obtain ⟨Y, eY2⟩ : ∃ Y, Y = zf_c1 (b + 83) wq Z := ⟨_, rfl⟩
    rw [← eY2] at hW
    have hzY : zi (b + 83) Y nn TT TT BB := by rw [eY2]; exact zi_c1 hzZ
    have hoY : zz_o (b + 83) (zy_c b M) Y := by rw [eY2, eZ]; exact zo_c1
    refine lv_iconst (v := (nI 0)) hx hb dX6_doneWithOneMoreAt_34 (by decide) ?_
    refine lv_istore_n (lv' := [(3, .int (nI 0)), (2, .null), (0, .ref b), (1, .int y)]) hx hb dX6_doneWithOneMoreAt_35 rfl hl (by decide) rfl (fun ls hl => ?_)
    refine xl_up (σ := Unit) 50 (fun kk zz H locs ls => xw_D G g τ (zm_it (zm_ti (b + 83)) kk Y) H ∧ va_S A s.heap H locs ∧ lv_has ls 4 [(3, .int (nI kk)), (0, .ref b)] ∧ True) (fun z36 H locs ls hI => ?_) (fun k36 z36 H locs ls hk36 hI ih36 => ?_) (k0 := 0) (z0 := ()) (Nat.zero_le _) ⟨hW, hS, lv_sub hl [0, 2] rfl, trivial⟩
    · obtain ⟨hW, hS, hl, hE36⟩ := hI
      refine lv_iload_n hx hb dX6_doneWithOneMoreAt_36 rfl (lv_at hl 0 rfl) ?_
      refine lv_bipush (v := (nI 50)) hx hb dX6_doneWithOneMoreAt_37 (by decide) ?_
      refine lv_icmp_ge (tgt := 55) hx hb dX6_doneWithOneMoreAt_39 (by decide) (fun c_16 => ?_) (fun c_16 => ?_)
      · refine lv_aload_n hx hb dX6_doneWithOneMoreAt_55 rfl (lv_at hl 1 rfl) ?_
        refine xg_get (κ := 16) (ci := 6) (C := RX6) (T := TX6) (N := 6) hx hb hts inX6 hown hK hW hτ (by decide) rfl rfl 1 (by decide) (hts (.fieldLink RX6 16 "HalfTickets" "trial" "LHalfTickets$Ministry;") (List.mem_of_getElem? (i := 1) (by decide +kernel))) (fun _ h9 => h9) rfl dX6_doneWithOneMoreAt_56 ?_
        refine lv_iconst (v := (nI 2)) hx hb dX6_doneWithOneMoreAt_59 (by decide) ?_
        refine xc_i (xr_V (As := [.int (nI 2)]) (rest := []) (κ := 1) ⟨hx, hb, hml, hown, hts⟩ (c_X2_peopleWho l O (zm_it (zm_ti (b + 83)) 50 Y) (b + 83) (O.b2 hτ) (nI 2)) (cwV 1 hts gX6_doneWithOneMoreAt_X2_peopleWho rfl rfl rfl (by decide +kernel) ⟨Nat.le_of_ble_eq_true rfl, Nat.le_of_ble_eq_true rfl⟩) hK hst hnw hS hW (O.b2 hτ) (by decide) rfl rfl rfl hl.1 rfl (Nat.le_of_ble_eq_true rfl) dX6_doneWithOneMoreAt_60 ⟨Nat.zero_le _, Nat.zero_le _⟩) hS (fun r_19 M_17 H locs hq_18 hW hS => ?_)
        obtain ⟨hq_18a, hq_18b⟩ := hq_18
        rw [hq_18b] at hW
        rw [hq_18a]
        exact W.iret (v := (zc_pw (b + 83) (nI 2) (zm_it (zm_ti (b + 83)) 50 Y))) hx hb hr (fun t ht hWm => ⟨⟨(zc_pw (b + 83) (nI 2) (zm_it (zm_ti (b + 83)) 50 Y)), (zm_it (zm_ti (b + 83)) 50 Y), rfl, ⟨(by unfold zf_dn; rw [← eZ, ← eY2]), zy_tk hzY hoY (by omega)⟩, xw_end ht hW⟩, hS.F ht⟩) hS.2.2 dX6_doneWithOneMoreAt_63
      · exact absurd (nI_le (Nat.le_refl _) (by decide)) c_16
    · obtain ⟨hW, hS, hl, hE36⟩ := hI
      refine lv_iload_n hx hb dX6_doneWithOneMoreAt_36 rfl (lv_at hl 0 rfl) ?_
      refine lv_bipush (v := (nI 50)) hx hb dX6_doneWithOneMoreAt_37 (by decide) ?_
      refine lv_icmp_ge (tgt := 55) hx hb dX6_doneWithOneMoreAt_39 (by decide) (fun c_20 => ?_) (fun c_20 => ?_)
      · exact absurd c_20 (nI_ge hk36 (by decide))
      · refine lv_aload_n hx hb dX6_doneWithOneMoreAt_42 rfl (lv_at hl 1 rfl) ?_
        refine xg_get (κ := 16) (ci := 6) (C := RX6) (T := TX6) (N := 6) hx hb hts inX6 hown hK hW hτ (by decide) rfl rfl 1 (by decide) (hts (.fieldLink RX6 16 "HalfTickets" "trial" "LHalfTickets$Ministry;") (List.mem_of_getElem? (i := 1) (by decide +kernel))) (fun _ h9 => h9) rfl dX6_doneWithOneMoreAt_43 ?_
        refine xc_v (xr_V (As := []) (rest := []) (κ := 1) ⟨hx, hb, hml, hown, hts⟩ (c_X2_tick l O (zm_it (zm_ti (b + 83)) k36 Y) (b + 83) (O.b2 hτ) (zi_tn k36 hzY (by omega)) (by omega)) (cwV 0 hts gX6_doneWithOneMoreAt_X2_tick rfl rfl rfl (by decide +kernel) ⟨Nat.le_of_ble_eq_true rfl, Nat.le_of_ble_eq_true rfl⟩) hK hst hnw hS hW (O.b2 hτ) (by decide) rfl rfl rfl hl.1 rfl (Nat.le_of_ble_eq_true rfl) dX6_doneWithOneMoreAt_46 ⟨Nat.zero_le _, Nat.zero_le _⟩) hS (fun M_21 H locs hq_22 hW hS => ?_)
        refine lv_iinc (v := (nI (k36 + 1))) (lv' := [(3, .int (nI (k36 + 1))), (0, .ref b)]) hx hb dX6_doneWithOneMoreAt_49 hl (k := 0) rfl ((nI_1 k36)) (by decide) rfl (fun ls hl => ?_)
        refine lv_goto (tgt := 36) hx hb dX6_doneWithOneMoreAt_52 (by decide) ?_
        rw [hq_22] at hW
        exact ih36 () _ _ _ ⟨hW, hS, lv_sub hl [0, 1] rfl, trivial⟩

set_option maxHeartbeats 4000000 in
set_option maxRecDepth 100000 in
/-- bestClerk() -/
theorem cz_bestClerk (l : Launch) {G : va_G} {g : Nat → ClassId} {t0 τ : Nat → Nat} {A : Nat → Prop} (O : xk_O τ A) (M : xm_T) (b : Nat) (hτ : τ b = 16) {nn TT BB : Nat} (hz : zi (b + 1) M nn TT TT BB) (hpN : zp_N b M) (hB : BB + 43200 < 2 ^ 31) : Met l yX6_bestClerk wsX6_bestClerk ({ frames := 6, cells := 0, slots := 0, locals := 190 }) (va_Pc [.ref b] (xS_t G g t0 τ A M)) (va_Qi (fun r M' => r = (zf_bc (b + 83) (zy_c b M) 6).1 ∧ zy b M M') (fun M' t => xw_D G g τ M' t.heap) A) 0 0 A := by
  refine Met.ofW (cc := cX6_bestClerk) (maxL := 6) (ret := (some .int)) (by decide) rfl ?_
  intro p e s m args below meth c s₁ B hml hv
  obtain ⟨rfl, hW, hK, hst, hnw⟩ := hv
  have hx := B.exec
  have hb := B.bytes
  have hr := B.returns
  have hts := atoms_spec (ws := wsX6_bestClerk) B.pre
  have hown : s.vm.findClass RX6 = some m.cls := findClass_of_methodNamed B.named
  have hlocks := B.notSynchronized
  have hS : va_S A s.heap s.heap [] := va_S.rf
  have inX5 : ∀ w ∈ u_ws RX5 TX5 7, w ∈ wsX6_bestClerk := by decide +kernel
  have inX6 : ∀ w ∈ u_ws RX6 TX6 6, w ∈ wsX6_bestClerk := by decide +kernel
  have hl := lv_entry ([.ref b]) (n := 6) (Nat.le_of_ble_eq_true rfl)
  rw [lg_entry_eq]
  generalize (lg_sl ([.ref b]) ++ List.replicate (6 - (lg_sl ([.ref b])).length) Slot.unset).toArray = ls at hl ⊢
  have hl : lv_has ls 6 [(0, .ref b)] := hl
  refine lv_bipush (v := (-6)) hx hb dX6_bestClerk_0 (by decide) ?_
  refine lv_istore_n (lv' := [(1, .int (-6)), (0, .ref b)]) hx hb dX6_bestClerk_2 rfl hl (by decide) rfl (fun ls hl => ?_)
  refine lv_aload_n hx hb dX6_bestClerk_3 rfl (lv_at hl 1 rfl) ?_
  refine lv_bipush (v := (-6)) hx hb dX6_bestClerk_4 (by decide) ?_
  refine xc_i (xr_V (As := [.int (-6)]) (rest := []) (κ := 16) ⟨hx, hb, hml, hown, hts⟩ (cz_doneWithOneMoreAt l O M b hτ hz hpN hB (wq := 6) (by rw [xf_win_n _ (Or.inl (by decide)), if_neg (by omega)])) (cwV 1 hts gX6_bestClerk_X6_doneWithOneMoreAt rfl rfl rfl (by decide +kernel) ⟨Nat.le_of_ble_eq_true rfl, Nat.le_of_ble_eq_true rfl⟩) hK hst hnw hS hW hτ (by decide) rfl rfl rfl hl.1 rfl (Nat.le_of_ble_eq_true rfl) dX6_bestClerk_6 ⟨Nat.zero_le _, Nat.zero_le _⟩) hS (fun r_3 M_1 H locs hq_2 hW hS => ?_)
  obtain ⟨hq_2a, hy0⟩ := hq_2
  rw [hq_2a]
  refine lv_istore_n (lv' := [(2, .int (zf_dn (b + 83) 6 (zy_c b M))), (1, .int (-6)), (0, .ref b)]) hx hb dX6_bestClerk_9 rfl hl (by decide) rfl (fun ls hl => ?_)
  refine lv_iconst (v := (nI 0)) hx hb dX6_bestClerk_10 (by decide) ?_
  refine lv_istore_n (lv' := [(3, .int (nI 0)), (2, .int (zf_dn (b + 83) 6 (zy_c b M))), (1, .int (-6)), (0, .ref b)]) hx hb dX6_bestClerk_11 rfl hl (by decide) rfl (fun ls hl => ?_)
  refine xl_up (σ := (xm_T × (Int32 × Int32))) 6 (fun kk zz H locs ls => xw_D G g τ zz.1 H ∧ va_S A s.heap H locs ∧ lv_has ls 6 [(3, .int (nI kk)), (2, .int zz.2.2), (1, .int zz.2.1), (0, .ref b)] ∧ zy b M zz.1 ∧ zz.2 = zf_bc (b + 83) (zy_c b M) kk) (fun z12 H locs ls hI => ?_) (fun k12 z12 H locs ls hk12 hI ih12 => ?_) (k0 := 0) (z0 := (M_1, (-6, zf_dn (b + 83) 6 (zy_c b M)))) (Nat.zero_le _) ⟨hW, hS, lv_sub hl [0, 1, 2, 3] rfl, ⟨hy0, rfl⟩⟩
  · obtain ⟨hW, hS, hl, hE12⟩ := hI
    refine lv_iload_n hx hb dX6_bestClerk_12 rfl (lv_at hl 0 rfl) ?_
    refine lv_bipush (v := (nI 6)) hx hb dX6_bestClerk_13 (by decide) ?_
    refine lv_icmp_ge (tgt := 66) hx hb dX6_bestClerk_15 (by decide) (fun c_4 => ?_) (fun c_4 => ?_)
    · refine lv_iload_n hx hb dX6_bestClerk_66 rfl (lv_at hl 2 rfl) ?_
      exact W.iret (v := z12.2.1) hx hb hr (fun t ht hWm => ⟨⟨z12.2.1, z12.1, rfl, ⟨(by rw [hE12.2]), hE12.1⟩, xw_end ht hW⟩, hS.F ht⟩) hS.2.2 dX6_bestClerk_67
    · exact absurd (nI_le (Nat.le_refl _) (by decide)) c_4
  · obtain ⟨hW, hS, hl, hE12⟩ := hI
    obtain ⟨hE1, hE2⟩ := hE12
    have hz1 : zi (b + 1) z12.1 nn TT TT BB := zi_g hz hE1.g
    refine lv_iload_n hx hb dX6_bestClerk_12 rfl (lv_at hl 0 rfl) ?_
    refine lv_bipush (v := (nI 6)) hx hb dX6_bestClerk_13 (by decide) ?_
    refine lv_icmp_ge (tgt := 66) hx hb dX6_bestClerk_15 (by decide) (fun c_5 => ?_) (fun c_5 => ?_)
    · exact absurd c_5 (nI_ge hk12 (by decide))
    · refine lv_aload_n hx hb dX6_bestClerk_18 rfl (lv_at hl 3 rfl) ?_
      refine xg_get (κ := 16) (ci := 6) (C := RX6) (T := TX6) (N := 6) hx hb hts inX6 hown hK hW hτ (by decide) rfl rfl 0 (by decide) (hts (.fieldLink RX6 10 "HalfTickets" "now" "LHalfTickets$Ministry;") (List.mem_of_getElem? (i := 1) (by decide +kernel))) (fun _ h9 => h9) rfl dX6_bestClerk_19 ?_
      refine lv_iload_n hx hb dX6_bestClerk_22 rfl (lv_at hl 0 rfl) ?_
      refine xc_q (xr_V (As := [.int (nI k12)]) (rest := []) (κ := 1) ⟨hx, hb, hml, hown, hts⟩ (c_X2_windowAt l O z12.1 (b + 1) (O.b1 hτ) (nI k12)) (cwV 1 hts gX6_bestClerk_X2_windowAt rfl rfl rfl (by decide +kernel) ⟨Nat.le_of_ble_eq_true rfl, Nat.le_of_ble_eq_true rfl⟩) hK hst hnw hS hW (O.b1 hτ) (by decide) rfl rfl rfl hl.1 rfl (Nat.le_of_ble_eq_true rfl) dX6_bestClerk_23 ⟨Nat.zero_le _, Nat.zero_le _⟩) hS (fun r_8 M_6 H locs hq_7 hW hS => ?_)
      obtain ⟨hq_7a, hq_7b⟩ := hq_7
      rw [hq_7b] at hW
      rw [hq_7a]
      rw [xf_win_s (b + 1) hk12]
      refine W.eq (g2 := F0 m 26 ls [.ref (b + 1 + 5 * k12 + 4)]) rfl ?_
      refine lv_astore (lv' := [(4, .ref (b + 1 + 5 * k12 + 4)), (3, .int (nI k12)), (2, .int z12.2.2), (1, .int z12.2.1), (0, .ref b)]) hx hb dX6_bestClerk_26 hl (by decide) rfl (fun ls hl => ?_)
      refine lv_aload hx hb dX6_bestClerk_28 (lv_at hl 0 rfl) ?_
      refine lv_ifnull hx hb dX6_bestClerk_30 ?_
      refine lv_aload hx hb dX6_bestClerk_33 (lv_at hl 0 rfl) ?_
      refine xg_get (κ := 5) (ci := 5) (C := RX5) (T := TX5) (N := 7) hx hb hts inX5 hown hK hW (O.w (O.b1 hτ) hk12) (by decide) rfl rfl 1 (by decide) (hts (.fieldLink RX6 72 "HalfTickets$Window" "clerks" "I") (List.mem_of_getElem? (i := 2) (by decide +kernel))) (fun _ h9 => h9) rfl dX6_bestClerk_35 ?_
      refine lv_iconst (v := (nI 3)) hx hb dX6_bestClerk_38 (by decide) ?_
      refine lv_icmp_ge (tgt := 60) hx hb dX6_bestClerk_39 (by decide) (fun c_9 => ?_) (fun c_9 => ?_)
      · refine lv_iinc (v := (nI (k12 + 1))) (lv' := [(3, .int (nI (k12 + 1))), (4, .ref (b + 1 + 5 * k12 + 4)), (2, .int z12.2.2), (1, .int z12.2.1), (0, .ref b)]) hx hb dX6_bestClerk_60 hl (k := 1) rfl ((nI_1 k12)) (by decide) rfl (fun ls hl => ?_)
        refine lv_goto (tgt := 12) hx hb dX6_bestClerk_63 (by decide) ?_
        exact ih12 (z12.1, z12.2) _ _ _ ⟨hW, hS, lv_sub hl [0, 2, 3, 4] rfl, ⟨hE1, (by rw [hE2]; exact (if_neg (fun z => absurd z.1 (Int32.not_lt.mpr (by rw [zc_V zy_cg hk12, ← hE1.1 _ (by omega)]; exact c_9)))).symm)⟩⟩
      · refine lv_aload_n hx hb dX6_bestClerk_42 rfl (lv_at hl 4 rfl) ?_
        refine lv_iload_n hx hb dX6_bestClerk_43 rfl (lv_at hl 1 rfl) ?_
        refine xc_i (xr_V (As := [.int (nI k12)]) (rest := []) (κ := 16) ⟨hx, hb, hml, hown, hts⟩ (cz_doneWithOneMoreAt l O z12.1 b hτ hz1 (zy_n hE1 hpN) hB (wq := k12) (by rw [xf_win_s _ hk12, if_pos hk12])) (cwV 1 hts gX6_bestClerk_X6_doneWithOneMoreAt rfl rfl rfl (by decide +kernel) ⟨Nat.le_of_ble_eq_true rfl, Nat.le_of_ble_eq_true rfl⟩) hK hst hnw hS hW hτ (by decide) rfl rfl rfl hl.1 rfl (Nat.le_of_ble_eq_true rfl) dX6_bestClerk_44 ⟨Nat.zero_le _, Nat.zero_le _⟩) hS (fun r_12 M_10 H locs hq_11 hW hS => ?_)
        obtain ⟨hq_11a, hy1⟩ := hq_11
        rw [hq_11a, zg_dn hE1.cg]
        have hy2 := zy_tr hE1 hy1
        refine lv_istore (lv' := [(5, .int (zf_dn (b + 83) k12 (zy_c b M))), (4, .ref (b + 1 + 5 * k12 + 4)), (3, .int (nI k12)), (2, .int z12.2.2), (1, .int z12.2.1), (0, .ref b)]) hx hb dX6_bestClerk_47 hl (by decide) rfl (fun ls hl => ?_)
        refine lv_iload hx hb dX6_bestClerk_49 (lv_at hl 0 rfl) ?_
        refine lv_iload_n hx hb dX6_bestClerk_51 rfl (lv_at hl 3 rfl) ?_
        refine lv_icmp_le (tgt := 60) hx hb dX6_bestClerk_52 (by decide) (fun c_13 => ?_) (fun c_13 => ?_)
        · refine lv_iinc (v := (nI (k12 + 1))) (lv' := [(3, .int (nI (k12 + 1))), (5, .int (zf_dn (b + 83) k12 (zy_c b M))), (4, .ref (b + 1 + 5 * k12 + 4)), (2, .int z12.2.2), (1, .int z12.2.1), (0, .ref b)]) hx hb dX6_bestClerk_60 hl (k := 2) rfl ((nI_1 k12)) (by decide) rfl (fun ls hl => ?_)
          refine lv_goto (tgt := 12) hx hb dX6_bestClerk_63 (by decide) ?_
          exact ih12 (M_10, z12.2) _ _ _ ⟨hW, hS, lv_sub hl [0, 3, 4, 5] rfl, ⟨hy2, (by rw [hE2]; exact (if_neg (fun z => absurd z.2 (Int32.not_lt.mpr (by rw [← hE2]; exact c_13)))).symm)⟩⟩
        · refine lv_iload hx hb dX6_bestClerk_55 (lv_at hl 0 rfl) ?_
          refine lv_istore_n (lv' := [(2, .int (zf_dn (b + 83) k12 (zy_c b M))), (5, .int (zf_dn (b + 83) k12 (zy_c b M))), (4, .ref (b + 1 + 5 * k12 + 4)), (3, .int (nI k12)), (1, .int z12.2.1), (0, .ref b)]) hx hb dX6_bestClerk_57 rfl hl (by decide) rfl (fun ls hl => ?_)
          refine lv_iload_n hx hb dX6_bestClerk_58 rfl (lv_at hl 3 rfl) ?_
          refine lv_istore_n (lv' := [(1, .int (nI k12)), (2, .int (zf_dn (b + 83) k12 (zy_c b M))), (5, .int (zf_dn (b + 83) k12 (zy_c b M))), (4, .ref (b + 1 + 5 * k12 + 4)), (3, .int (nI k12)), (0, .ref b)]) hx hb dX6_bestClerk_59 rfl hl (by decide) rfl (fun ls hl => ?_)
          refine lv_iinc (v := (nI (k12 + 1))) (lv' := [(3, .int (nI (k12 + 1))), (1, .int (nI k12)), (2, .int (zf_dn (b + 83) k12 (zy_c b M))), (5, .int (zf_dn (b + 83) k12 (zy_c b M))), (4, .ref (b + 1 + 5 * k12 + 4)), (0, .ref b)]) hx hb dX6_bestClerk_60 hl (k := 4) rfl ((nI_1 k12)) (by decide) rfl (fun ls hl => ?_)
          refine lv_goto (tgt := 12) hx hb dX6_bestClerk_63 (by decide) ?_
          exact ih12 (M_10, (nI k12, zf_dn (b + 83) k12 (zy_c b M))) _ _ _ ⟨hW, hS, lv_sub hl [0, 2, 1, 5] rfl, ⟨hy2, (by exact (if_pos ⟨by rw [zc_V zy_cg hk12, ← hE1.1 _ (by omega)]; exact Int32.not_le.mp c_9, by rw [← hE2]; exact Int32.not_le.mp c_13⟩).symm)⟩⟩
