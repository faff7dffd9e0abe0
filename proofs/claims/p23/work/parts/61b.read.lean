/-! THE LAW: isRead -/

set_option maxHeartbeats 4000000 in
set_option maxRecDepth 100000 in
/-- isRead(o, p, x, y) -/
theorem c_L_isRead (l : Launch) {G : va_G} {g : Nat → ClassId} {t0 τ : Nat → Nat} {A : Nat → Prop} (O : xk_O τ A) (M : xm_T) (b bp NN : Nat) (tb : τ b = 16) (tp : τ bp = 16) (hbc : b + 827 ≤ bp) (hL : zL b bp NN M) (hN : NN ≤ 60) (vx vy : Int32) : Met l yL_isRead wsL_isRead ({ frames := 6, cells := 0, slots := 0, locals := 200 }) (va_Pc [.ref b, .ref bp, .int vx, .int vy] (xS_t G g t0 τ A M)) (va_Qi (fun r M' => r = nI 1 ∧ zL b bp (NN + 1) M') (fun M' t => xw_D G g τ M' t.heap) A) 0 0 A := by
  refine Met.ofW (cc := cL_isRead) (maxL := 13) (ret := (some .boolean)) (by decide) rfl ?_
  intro p e s m args below meth c s₁ B hml hv
  obtain ⟨rfl, hW, hK, hst, hnw⟩ := hv
  have hx := B.exec
  have hb := B.bytes
  have hr := B.returns
  have hts := atoms_spec (ws := wsL_isRead) B.pre
  have hown : s.vm.findClass RL = some m.cls := findClass_of_methodNamed B.named
  have hlocks := B.notSynchronized
  have hS : va_S A s.heap s.heap [] := va_S.rf
  have hl := lv_entry ([.ref b, .ref bp, .int vx, .int vy]) (n := 13) (Nat.le_of_ble_eq_true rfl)
  rw [lg_entry_eq]
  generalize (lg_sl ([.ref b, .ref bp, .int vx, .int vy]) ++ List.replicate (13 - (lg_sl ([.ref b, .ref bp, .int vx, .int vy])).length) Slot.unset).toArray = ls at hl ⊢
  have hl : lv_has ls 13 [(0, .ref b), (1, .ref bp), (2, .int vx), (3, .int vy)] := hl
  obtain ⟨hpb, hpc, ⟨nn, TT, hT, hz⟩, hg, hs⟩ := id hL
  have hnn := hz.n
  obtain ⟨-, -, LP, hLP, hLM⟩ := id hpb
  refine lv_aload_n hx hb dL_isRead_0 rfl (lv_at hl 0 rfl) ?_
  refine xc_i (xr_V (As := []) (rest := []) (κ := 16) ⟨hx, hb, hml, hown, hts⟩ (cz_wipe l O M b tb hpb) (cwV 0 hts gL_isRead_X6_wipe rfl rfl rfl (by decide +kernel) ⟨Nat.le_of_ble_eq_true rfl, Nat.le_of_ble_eq_true rfl⟩) hK hst hnw hS hW tb (by decide) rfl rfl rfl hl.1 rfl (Nat.le_of_ble_eq_true rfl) dL_isRead_1 ⟨Nat.zero_le _, Nat.zero_le _⟩) hS (fun r_3 M_1 H locs hq_2 hW hS => ?_)
  obtain ⟨hq_2a, hq_2b⟩ := hq_2
  rw [hq_2a, hLM]
  have o1 : ∀ x, x ≠ b + 825 → M_1 x = M x := fun x hx => by rw [hq_2b]; exact xr_n _ _ hx
  have hR0 : zR b bp M (zd_m vx vy) (zd_e vx vy) 0 M_1 := by rw [hq_2b]; exact zR_0 hbc hL
  refine lv_if_lt (tgt := 11) hx hb dL_isRead_4 (by decide) (fun c_4 => ?_) (fun c_4 => ?_)
  · exact absurd c_4 (nI_pos (by omega))
  · refine lv_iconst (v := (nI 1)) hx hb dL_isRead_7 (by decide) ?_
    refine lv_goto (tgt := 12) hx hb dL_isRead_8 (by decide) ?_
    refine lv_istore (lv' := [(4, .int (nI 1)), (0, .ref b), (1, .ref bp), (2, .int vx), (3, .int vy)]) hx hb dL_isRead_12 hl (by decide) rfl (fun ls hl => ?_)
    refine lv_aload_n hx hb dL_isRead_14 rfl (lv_at hl 1 rfl) ?_
    refine lv_iconst (v := (nI 4)) hx hb dL_isRead_15 (by decide) ?_
    refine xc_i (xr_V (As := [.int (nI 4)]) (rest := []) (κ := 16) ⟨hx, hb, hml, hown, hts⟩ (cz_count l O M_1 b tb (jj := 4) (by omega)) (cwV 1 hts gL_isRead_X6_count rfl rfl rfl (by decide +kernel) ⟨Nat.le_of_ble_eq_true rfl, Nat.le_of_ble_eq_true rfl⟩) hK hst hnw hS hW tb (by decide) rfl rfl rfl hl.1 rfl (Nat.le_of_ble_eq_true rfl) dL_isRead_16 ⟨Nat.zero_le _, Nat.zero_le _⟩) hS (fun r_7 M_5 H locs hq_6 hW hS => ?_)
    obtain ⟨hq_6a, hq_6b⟩ := hq_6
    rw [hq_6b] at hW
    rw [hq_6a]
    rw [show (zf_co (b + 1) M_1 4) = (nI nn) from (by show M_1 (b + 1) 3 = _; rw [o1 _ (by omega)]; exact hz.1.2.1)]
    refine lv_istore (lv' := [(5, .int (nI nn)), (4, .int (nI 1)), (0, .ref b), (1, .ref bp), (2, .int vx), (3, .int vy)]) hx hb dL_isRead_19 hl (by decide) rfl (fun ls hl => ?_)
    refine lv_iconst (v := (nI 1)) hx hb dL_isRead_21 (by decide) ?_
    refine lv_iload_n hx hb dL_isRead_22 rfl (lv_at hl 4 rfl) ?_
    refine lv_iconst (v := (nI 4)) hx hb dL_isRead_23 (by decide) ?_
    refine xc_i (xr_S (As := [.int vx, .int (nI 4)]) (rest := [.int (nI 1)]) ⟨hx, hb, hml, hown, hts⟩ (c_L_up l O M_1 vx (n := 4) (by omega) (by omega)) (va_cwS 2 hts gL_isRead_L_up rfl rfl rfl (by decide +kernel) ⟨Nat.le_of_ble_eq_true rfl, Nat.le_of_ble_eq_true rfl⟩) hK hst hnw hS hW rfl hl.1 rfl (Nat.le_of_ble_eq_true rfl) dL_isRead_24 ⟨Nat.zero_le _, Nat.zero_le _⟩) hS (fun r_10 M_8 H locs hq_9 hW hS => ?_)
    obtain ⟨hq_9a, hq_9b⟩ := hq_9
    rw [hq_9b] at hW
    rw [hq_9a]
    obtain ⟨q4, hq4, eq4⟩ : ∃ q, q < 4 ∧ zu_u vx 4 = q := ⟨_, zu_lt (by omega), rfl⟩
    rw [eq4]
    refine lv_iadd hx hb dL_isRead_27 ?_
    obtain ⟨n, hn⟩ : ∃ n, n = 1 + q4 := ⟨_, rfl⟩
    rw [show nI 1 + nI q4 = nI n by rw [hn]; exact nI_add 1 q4]
    refine lv_istore (lv' := [(6, .int (nI n)), (5, .int (nI nn)), (4, .int (nI 1)), (0, .ref b), (1, .ref bp), (2, .int vx), (3, .int vy)]) hx hb dL_isRead_28 hl (by decide) rfl (fun ls hl => ?_)
    refine lv_iload hx hb dL_isRead_30 (lv_at hl 1 rfl) ?_
    refine lv_iload hx hb dL_isRead_32 (lv_at hl 0 rfl) ?_
    refine lv_iadd hx hb dL_isRead_34 ?_
    rw [show (nI nn) + (nI n) = (nI (nn + n)) from nI_add nn n]
    refine lv_bipush (v := (nI 24)) hx hb dL_isRead_35 (by decide) ?_
    refine lv_icmp_le (tgt := 62) hx hb dL_isRead_37 (by decide) (fun c_11 => ?_) (fun c_11 => ?_)
    · have hle : nn + n ≤ 24 := (nI_leI (by omega) (by omega)).mp c_11
      refine lv_iconst (v := (nI 0)) hx hb dL_isRead_62 (by decide) ?_
      refine lv_istore (lv' := [(7, .int (nI 0)), (6, .int (nI n)), (5, .int (nI nn)), (4, .int (nI 1)), (0, .ref b), (1, .ref bp), (2, .int vx), (3, .int vy)]) hx hb dL_isRead_63 hl (by decide) rfl (fun ls hl => ?_)
      refine xl_up (σ := xm_T) n (fun kk zz H locs ls => xw_D G g τ zz H ∧ va_S A s.heap H locs ∧ lv_has ls 13 [(7, .int (nI kk)), (4, .int (nI 1)), (5, .int (nI nn)), (6, .int (nI n)), (0, .ref b), (1, .ref bp), (2, .int vx), (3, .int vy)] ∧ zR b bp M (zd_m vx vy) (zd_e vx vy) kk zz) (fun z65 H locs ls hI => ?_) (fun k65 z65 H locs ls hk65 hI ih65 => ?_) (k0 := 0) (z0 := M_1) (Nat.zero_le _) ⟨hW, hS, lv_sub hl [0, 3, 2, 1, 4, 5, 6, 7] rfl, hR0⟩
      · obtain ⟨hW, hS, hl, hE65⟩ := hI
        refine lv_iload hx hb dL_isRead_65 (lv_at hl 0 rfl) ?_
        refine lv_iload hx hb dL_isRead_67 (lv_at hl 3 rfl) ?_
        refine lv_icmp_ge (tgt := 317) hx hb dL_isRead_69 (by decide) (fun c_12 => ?_) (fun c_12 => ?_)
        · refine lv_iload hx hb dL_isRead_317 (lv_at hl 1 rfl) ?_
          refine lv_if_eq (tgt := 351) hx hb dL_isRead_319 (by decide) (fun c_13 => ?_) (fun c_13 => ?_)
          · exact absurd c_13 (by decide)
          · refine lv_aload_n hx hb dL_isRead_322 rfl (lv_at hl 4 rfl) ?_
            obtain ⟨r1, r2, r3, r4, Lk, l1, l2, l60, l3, l4⟩ := id hE65
            have hLn := l2 (by omega)
            have hz4 : zi (b + 1) z65 nn TT TT (20 + 14256 * NN) := zi_g hz (zg_of (fun x y1 y2 => r3 x (by omega)))
            refine xc_i (xr_V (As := []) (rest := []) (κ := 16) ⟨hx, hb, hml, hown, hts⟩ (cz_read l O z65 b tb r1 hz4 (NN := n) (L := Lk) l60 l3 l4 (zd_v vx vy n) hLn hle) (cwV 0 hts gL_isRead_X6_read rfl rfl rfl (by decide +kernel) ⟨Nat.le_of_ble_eq_true rfl, Nat.le_of_ble_eq_true rfl⟩) hK hst hnw hS hW tb (by decide) rfl rfl rfl hl.1 rfl (Nat.le_of_ble_eq_true rfl) dL_isRead_323 ⟨Nat.zero_le _, Nat.zero_le _⟩) hS (fun r_16 M_14 H locs hq_15 hW hS => ?_)
            obtain ⟨hq_15a, hq_15b, hq_15c⟩ := hq_15
            rw [hq_15a]
            have hz5 := zi_g (zi_al hz4 n (zd_v vx vy n) hle) (zq_n hq_15b)
            refine lv_iload hx hb dL_isRead_326 (lv_at hl 2 rfl) ?_
            refine lv_iload hx hb dL_isRead_328 (lv_at hl 3 rfl) ?_
            refine lv_iadd hx hb dL_isRead_330 ?_
            rw [show (nI nn) + (nI n) = (nI (nn + n)) from nI_add nn n]
            refine lv_icmp_ne (tgt := 351) hx hb dL_isRead_331 (by decide) (fun c_17 => ?_) (fun c_17 => ?_)
            · exact absurd c_17 (fun z => z rfl)
            · refine lv_aload_n hx hb dL_isRead_334 rfl (lv_at hl 4 rfl) ?_
              refine lv_iconst (v := (nI 4)) hx hb dL_isRead_335 (by decide) ?_
              refine xc_i (xr_V (As := [.int (nI 4)]) (rest := []) (κ := 16) ⟨hx, hb, hml, hown, hts⟩ (cz_count l O M_14 b tb (jj := 4) (by omega)) (cwV 1 hts gL_isRead_X6_count rfl rfl rfl (by decide +kernel) ⟨Nat.le_of_ble_eq_true rfl, Nat.le_of_ble_eq_true rfl⟩) hK hst hnw hS hW tb (by decide) rfl rfl rfl hl.1 rfl (Nat.le_of_ble_eq_true rfl) dL_isRead_336 ⟨Nat.zero_le _, Nat.zero_le _⟩) hS (fun r_20 M_18 H locs hq_19 hW hS => ?_)
              obtain ⟨hq_19a, hq_19b⟩ := hq_19
              rw [hq_19b] at hW
              rw [hq_19a]
              rw [show (zf_co (b + 1) M_14 4) = (nI (nn + n)) from hz5.1.2.1]
              refine lv_iload hx hb dL_isRead_339 (lv_at hl 2 rfl) ?_
              refine lv_iload hx hb dL_isRead_341 (lv_at hl 3 rfl) ?_
              refine lv_iadd hx hb dL_isRead_343 ?_
              rw [show (nI nn) + (nI n) = (nI (nn + n)) from nI_add nn n]
              refine lv_icmp_ne (tgt := 351) hx hb dL_isRead_344 (by decide) (fun c_21 => ?_) (fun c_21 => ?_)
              · exact absurd c_21 (fun z => z rfl)
              · refine lv_iconst (v := (nI 1)) hx hb dL_isRead_347 (by decide) ?_
                refine lv_goto (tgt := 352) hx hb dL_isRead_348 (by decide) ?_
                exact W.zret (v := (nI 1)) hx hb hr rfl (fun t ht hWm => ⟨⟨(nI 1), M_14, rfl, ⟨rfl, zR_n hbc hL hz hT (zd_v vx vy n) hle hE65 hq_15b⟩, xw_end ht hW⟩, hS.F ht⟩) hS.2.2 dL_isRead_352
        · exact absurd (nI_le (Nat.le_refl _) (by omega)) c_12
      · obtain ⟨hW, hS, hl, hE65⟩ := hI
        have hs9 := zd_s vx vy k65
        have hm9 := zd_m1 vx vy k65
        obtain ⟨r1, r2, r3, r4, Lk, l1, l2, l60, l3, l4⟩ := id hE65
        refine lv_iload hx hb dL_isRead_65 (lv_at hl 0 rfl) ?_
        refine lv_iload hx hb dL_isRead_67 (lv_at hl 3 rfl) ?_
        refine lv_icmp_ge (tgt := 317) hx hb dL_isRead_69 (by decide) (fun c_22 => ?_) (fun c_22 => ?_)
        · exact absurd c_22 (nI_ge hk65 (by omega))
        · refine lv_iload_n hx hb dL_isRead_72 rfl (lv_at hl 6 rfl) ?_
          refine lv_iconst (v := (nI 2)) hx hb dL_isRead_73 (by decide) ?_
          refine lv_iload hx hb dL_isRead_74 (lv_at hl 0 rfl) ?_
          refine lv_imul hx hb dL_isRead_76 ?_
          refine lv_ishr hx hb dL_isRead_77 ?_
          refine lv_iload_n hx hb dL_isRead_78 rfl (lv_at hl 7 rfl) ?_
          refine lv_iconst (v := (nI 3)) hx hb dL_isRead_79 (by decide) ?_
          refine lv_iload hx hb dL_isRead_80 (lv_at hl 0 rfl) ?_
          refine lv_imul hx hb dL_isRead_82 ?_
          refine lv_ishr hx hb dL_isRead_83 ?_
          refine lv_ixor hx hb dL_isRead_84 ?_
          refine lv_istore (lv' := [(8, .int (zd_z vx vy (nI k65))), (7, .int (nI k65)), (4, .int (nI 1)), (5, .int (nI nn)), (6, .int (nI n)), (0, .ref b), (1, .ref bp), (2, .int vx), (3, .int vy)]) hx hb dL_isRead_85 hl (by decide) rfl (fun ls hl => ?_)
          refine lv_iconst (v := (nI 1)) hx hb dL_isRead_87 (by decide) ?_
          refine lv_iload hx hb dL_isRead_88 (lv_at hl 0 rfl) ?_
          refine lv_iload hx hb dL_isRead_90 (lv_at hl 0 rfl) ?_
          refine lv_bipush (v := (nI 9)) hx hb dL_isRead_92 (by decide) ?_
          refine lv_ishr hx hb dL_isRead_94 ?_
          refine lv_iconst (v := (nI 5)) hx hb dL_isRead_95 (by decide) ?_
          refine xc_i (xr_S (As := [.int ((zd_z vx vy (nI k65)) >>> ((nI 9) &&& 31)), .int (nI 5)]) (rest := [.int (zd_z vx vy (nI k65)), .int (nI 1)]) ⟨hx, hb, hml, hown, hts⟩ (c_L_up l O z65 ((zd_z vx vy (nI k65)) >>> ((nI 9) &&& 31)) (n := 5) (by omega) (by omega)) (va_cwS 2 hts gL_isRead_L_up rfl rfl rfl (by decide +kernel) ⟨Nat.le_of_ble_eq_true rfl, Nat.le_of_ble_eq_true rfl⟩) hK hst hnw hS hW rfl hl.1 rfl (Nat.le_of_ble_eq_true rfl) dL_isRead_96 ⟨Nat.zero_le _, Nat.zero_le _⟩) hS (fun r_25 M_23 H locs hq_24 hW hS => ?_)
          obtain ⟨hq_24a, hq_24b⟩ := hq_24
          rw [hq_24b] at hW
          rw [hq_24a]
          refine lv_if_ne (tgt := 107) hx hb dL_isRead_99 (by decide) (fun c_26 => ?_) (fun c_26 => ?_)
          · have hh5 : ¬ zu_u ((zd_z vx vy (nI k65)) >>> ((nI 9) &&& 31)) 5 = 0 := fun z => c_26 (by rw [z]; rfl)
            refine lv_iconst (v := (nI 4)) hx hb dL_isRead_107 (by decide) ?_
            refine xc_i (xr_S (As := [.int (zd_z vx vy (nI k65)), .int (nI 4)]) (rest := [.int (nI 1)]) ⟨hx, hb, hml, hown, hts⟩ (c_L_up l O z65 (zd_z vx vy (nI k65)) (n := 4) (by omega) (by omega)) (va_cwS 2 hts gL_isRead_L_up rfl rfl rfl (by decide +kernel) ⟨Nat.le_of_ble_eq_true rfl, Nat.le_of_ble_eq_true rfl⟩) hK hst hnw hS hW rfl hl.1 rfl (Nat.le_of_ble_eq_true rfl) dL_isRead_108 ⟨Nat.zero_le _, Nat.zero_le _⟩) hS (fun r_29 M_27 H locs hq_28 hW hS => ?_)
            obtain ⟨hq_28a, hq_28b⟩ := hq_28
            rw [hq_28b] at hW
            rw [hq_28a]
            refine lv_iadd hx hb dL_isRead_111 ?_
            rw [show nI 1 + nI (zu_u (zd_z vx vy (nI k65)) 4) = nI (zd_m vx vy k65) from by unfold zd_m; rw [if_neg hh5]; exact nI_add 1 _]
            refine lv_istore (lv' := [(9, .int (nI (zd_m vx vy k65))), (8, .int (zd_z vx vy (nI k65))), (7, .int (nI k65)), (4, .int (nI 1)), (5, .int (nI nn)), (6, .int (nI n)), (0, .ref b), (1, .ref bp), (2, .int vx), (3, .int vy)]) hx hb dL_isRead_112 hl (by decide) rfl (fun ls hl => ?_)
            refine lv_iconst (v := (-1)) hx hb dL_isRead_114 (by decide) ?_
            refine lv_istore (lv' := [(10, .int (-1)), (9, .int (nI (zd_m vx vy k65))), (8, .int (zd_z vx vy (nI k65))), (7, .int (nI k65)), (4, .int (nI 1)), (5, .int (nI nn)), (6, .int (nI n)), (0, .ref b), (1, .ref bp), (2, .int vx), (3, .int vy)]) hx hb dL_isRead_115 hl (by decide) rfl (fun ls hl => ?_)
            refine lv_iload hx hb dL_isRead_117 (lv_at hl 4 rfl) ?_
            refine lv_if_eq (tgt := 148) hx hb dL_isRead_119 (by decide) (fun c_30 => ?_) (fun c_30 => ?_)
            · exact absurd c_30 (by decide)
            · refine lv_iload hx hb dL_isRead_122 (lv_at hl 3 rfl) ?_
              refine lv_if_eq (tgt := 137) hx hb dL_isRead_124 (by decide) (fun c_31 => ?_) (fun c_31 => ?_)
              · have hk0 : k65 = 0 := zI_inj (by omega) (by omega) c_31
                refine lv_aload_n hx hb dL_isRead_137 rfl (lv_at hl 8 rfl) ?_
                have hpc1 : zp bp z65 := r2
                obtain ⟨-, -, LC, hLC, hLCM⟩ := id hpc1
                refine xc_i (xr_V (As := []) (rest := []) (κ := 16) ⟨hx, hb, hml, hown, hts⟩ (cz_wipe l O z65 bp tp hpc1) (cwV 0 hts gL_isRead_X6_wipe rfl rfl rfl (by decide +kernel) ⟨Nat.le_of_ble_eq_true rfl, Nat.le_of_ble_eq_true rfl⟩) hK hst hnw hS hW tp (by decide) rfl rfl rfl hl.1 rfl (Nat.le_of_ble_eq_true rfl) dL_isRead_138 ⟨Nat.zero_le _, Nat.zero_le _⟩) hS (fun r_34 M_32 H locs hq_33 hW hS => ?_)
                obtain ⟨hq_33a, hq_33b⟩ := hq_33
                rw [hq_33a, hLCM]
                have hJ0 : zR2 b bp (zd_m vx vy) (zd_e vx vy) k65 0 z65 M_32 := by rw [hq_33b]; exact zR2_0 hbc hE65 hk0
                refine lv_if_lt (tgt := 148) hx hb dL_isRead_141 (by decide) (fun c_35 => ?_) (fun c_35 => ?_)
                · exact absurd c_35 (nI_pos (by omega))
                · refine lv_iconst (v := (nI 1)) hx hb dL_isRead_144 (by decide) ?_
                  refine lv_goto (tgt := 149) hx hb dL_isRead_145 (by decide) ?_
                  refine lv_istore (lv' := [(4, .int (nI 1)), (10, .int (-1)), (9, .int (nI (zd_m vx vy k65))), (8, .int (zd_z vx vy (nI k65))), (7, .int (nI k65)), (5, .int (nI nn)), (6, .int (nI n)), (0, .ref b), (1, .ref bp), (2, .int vx), (3, .int vy)]) hx hb dL_isRead_149 hl (by decide) rfl (fun ls hl => ?_)
                  refine lv_iconst (v := (nI 0)) hx hb dL_isRead_151 (by decide) ?_
                  refine lv_istore (lv' := [(11, .int (nI 0)), (4, .int (nI 1)), (10, .int (-1)), (9, .int (nI (zd_m vx vy k65))), (8, .int (zd_z vx vy (nI k65))), (7, .int (nI k65)), (5, .int (nI nn)), (6, .int (nI n)), (0, .ref b), (1, .ref bp), (2, .int vx), (3, .int vy)]) hx hb dL_isRead_152 hl (by decide) rfl (fun ls hl => ?_)
                  refine xl_up (σ := xm_T) (zd_m vx vy k65) (fun kk zz H locs ls => xw_D G g τ zz H ∧ va_S A s.heap H locs ∧ lv_has ls 13 [(11, .int (nI kk)), (10, .int (zd_l vx vy k65 kk)), (8, .int (zd_z vx vy (nI k65))), (9, .int (nI (zd_m vx vy k65))), (7, .int (nI k65)), (4, .int (nI 1)), (5, .int (nI nn)), (6, .int (nI n)), (0, .ref b), (1, .ref bp), (2, .int vx), (3, .int vy)] ∧ zR2 b bp (zd_m vx vy) (zd_e vx vy) k65 kk z65 zz) (fun z154 H locs ls hI => ?_) (fun k154 z154 H locs ls hk154 hI ih154 => ?_) (k0 := 0) (z0 := M_32) (Nat.zero_le _) ⟨hW, hS, lv_sub hl [0, 2, 4, 3, 5, 1, 6, 7, 8, 9, 10, 11] rfl, hJ0⟩
                  · obtain ⟨hW, hS, hl, hE154⟩ := hI
                    refine lv_iload hx hb dL_isRead_154 (lv_at hl 0 rfl) ?_
                    refine lv_iload hx hb dL_isRead_156 (lv_at hl 3 rfl) ?_
                    refine lv_icmp_ge (tgt := 257) hx hb dL_isRead_158 (by decide) (fun c_36 => ?_) (fun c_36 => ?_)
                    · refine lv_iload hx hb dL_isRead_257 (lv_at hl 5 rfl) ?_
                      refine lv_if_eq (tgt := 308) hx hb dL_isRead_259 (by decide) (fun c_37 => ?_) (fun c_37 => ?_)
                      · exact absurd c_37 (by decide)
                      · refine lv_aload_n hx hb dL_isRead_262 rfl (lv_at hl 9 rfl) ?_
                        obtain ⟨s1, s2, s3, s4, s5⟩ := id hE154
                        have hzal := zi_al hz k65 (zd_v vx vy k65) (by omega)
                        have hzc := zi_g (zi_g hzal r4) (zg_of (a := bp + 1) (M' := z154) (fun x y1 y2 => s1 x (by omega) (by omega) (by omega) (by omega)))
                        have hpc3 : zp bp z154 := zp_pd r2 (fun x y1 y2 y3 y4 => s1 x (by omega) (by omega) y1 y2) (by omega) s4
                        have hv1 : zt_v 1 (fun _ => zd_m vx vy k65) (fun _ => zd_e vx vy k65) := fun k _ => ⟨hm9.1, hm9.2, fun j _ => zd_e6 vx vy k65 j, fun j _ => zd_en vx vy k65 j⟩
                        refine xc_i (xr_V (As := []) (rest := []) (κ := 16) ⟨hx, hb, hml, hown, hts⟩ (cz_read l O z154 bp tp hpc3 hzc (NN := 1) (L := zd_m vx vy k65) (em := fun _ => zd_m vx vy k65) (ee := fun _ => zd_e vx vy k65) (by omega) s4 s5 hv1 (by show _ = 0 + zd_m vx vy k65 + 1; omega) (by omega)) (cwV 0 hts gL_isRead_X6_read rfl rfl rfl (by decide +kernel) ⟨Nat.le_of_ble_eq_true rfl, Nat.le_of_ble_eq_true rfl⟩) hK hst hnw hS hW tp (by decide) rfl rfl rfl hl.1 rfl (Nat.le_of_ble_eq_true rfl) dL_isRead_263 ⟨Nat.zero_le _, Nat.zero_le _⟩) hS (fun r_40 M_38 H locs hq_39 hW hS => ?_)
                        obtain ⟨hq_39a, hq_39b, hq_39c⟩ := hq_39
                        rw [hq_39a]
                        have hzw := zad_w hzc (m := zd_m vx vy k65) (e := fun j => nI (zd_e vx vy k65 j)) (by omega) (by omega) ⟨_, zd_e6 vx vy k65 0, rfl⟩
                        have hz3 : zi (bp + 1) M_38 (nn + k65 + 1) TT TT (20 + 14256 * NN) := zi_g (zi_al hzc 1 hv1 (by omega)) (zq_n hq_39b)
                        have hR1 : zR b bp M (zd_m vx vy) (zd_e vx vy) (k65 + 1) M_38 := zR_1 hbc hE65 hE154 (by omega) hq_39b
                        refine lv_iload hx hb dL_isRead_266 (lv_at hl 6 rfl) ?_
                        refine lv_iload hx hb dL_isRead_268 (lv_at hl 4 rfl) ?_
                        refine lv_iadd hx hb dL_isRead_270 ?_
                        rw [show (nI nn) + (nI k65) = (nI (nn + k65)) from nI_add nn k65]
                        refine lv_iconst (v := (nI 1)) hx hb dL_isRead_271 (by decide) ?_
                        refine lv_iadd hx hb dL_isRead_272 ?_
                        rw [show (nI (nn + k65)) + (nI 1) = (nI (nn + k65 + 1)) from nI_add _ 1]
                        refine lv_icmp_ne (tgt := 308) hx hb dL_isRead_273 (by decide) (fun c_41 => ?_) (fun c_41 => ?_)
                        · exact absurd c_41 (fun z => z rfl)
                        · refine lv_aload_n hx hb dL_isRead_276 rfl (lv_at hl 9 rfl) ?_
                          refine lv_iload hx hb dL_isRead_277 (lv_at hl 6 rfl) ?_
                          refine lv_iload hx hb dL_isRead_279 (lv_at hl 4 rfl) ?_
                          refine lv_iadd hx hb dL_isRead_281 ?_
                          rw [show (nI nn) + (nI k65) = (nI (nn + k65)) from nI_add nn k65]
                          refine lv_iconst (v := (nI 5)) hx hb dL_isRead_282 (by decide) ?_
                          refine xc_i (xr_V (As := [.int (nI (nn + k65)), .int (nI 5)]) (rest := []) (κ := 16) ⟨hx, hb, hml, hown, hts⟩ (cz_person l O M_38 bp tp hz3 (k := (nn + k65)) (jj := 5) (by omega) (by omega)) (cwV 2 hts gL_isRead_X6_person rfl rfl rfl (by decide +kernel) ⟨Nat.le_of_ble_eq_true rfl, Nat.le_of_ble_eq_true rfl⟩) hK hst hnw hS hW tp (by decide) rfl rfl rfl hl.1 rfl (Nat.le_of_ble_eq_true rfl) dL_isRead_283 ⟨Nat.zero_le _, Nat.zero_le _⟩) hS (fun r_44 M_42 H locs hq_43 hW hS => ?_)
                          obtain ⟨hq_43a, hq_43b⟩ := hq_43
                          rw [hq_43b] at hW
                          rw [hq_43a]
                          rw [show (zf_pe (bp + 1) M_38 (nn + k65) 5) = (nI (zd_m vx vy k65)) from (by show M_38 (bp + 1 + 2 * (nn + k65) + 34) 2 = _; rw [hq_39b.2.2.1 _ (by omega) (by omega)]; exact hzw.1)]
                          refine lv_iload hx hb dL_isRead_286 (lv_at hl 3 rfl) ?_
                          refine lv_icmp_ne (tgt := 308) hx hb dL_isRead_288 (by decide) (fun c_45 => ?_) (fun c_45 => ?_)
                          · exact absurd c_45 (fun z => z rfl)
                          · refine lv_aload_n hx hb dL_isRead_291 rfl (lv_at hl 9 rfl) ?_
                            refine lv_iload hx hb dL_isRead_292 (lv_at hl 6 rfl) ?_
                            refine lv_iload hx hb dL_isRead_294 (lv_at hl 4 rfl) ?_
                            refine lv_iadd hx hb dL_isRead_296 ?_
                            rw [show (nI nn) + (nI k65) = (nI (nn + k65)) from nI_add nn k65]
                            refine lv_iconst (v := (nI 0)) hx hb dL_isRead_297 (by decide) ?_
                            refine xc_i (xr_V (As := [.int (nI (nn + k65)), .int (nI 0)]) (rest := []) (κ := 16) ⟨hx, hb, hml, hown, hts⟩ (cz_person l O M_38 bp tp hz3 (k := (nn + k65)) (jj := 0) (by omega) (by omega)) (cwV 2 hts gL_isRead_X6_person rfl rfl rfl (by decide +kernel) ⟨Nat.le_of_ble_eq_true rfl, Nat.le_of_ble_eq_true rfl⟩) hK hst hnw hS hW tp (by decide) rfl rfl rfl hl.1 rfl (Nat.le_of_ble_eq_true rfl) dL_isRead_298 ⟨Nat.zero_le _, Nat.zero_le _⟩) hS (fun r_48 M_46 H locs hq_47 hW hS => ?_)
                            obtain ⟨hq_47a, hq_47b⟩ := hq_47
                            rw [hq_47b] at hW
                            rw [hq_47a]
                            rw [show (zf_pe (bp + 1) M_38 (nn + k65) 0) = (nI 0) from (by show M_38 (bp + 1 + 2 * (nn + k65) + 34) 3 = _; rw [hq_39b.2.2.1 _ (by omega) (by omega)]; exact hzw.2)]
                            refine lv_if_ne (tgt := 308) hx hb dL_isRead_301 (by decide) (fun c_49 => ?_) (fun c_49 => ?_)
                            · exact absurd c_49 (fun z => z rfl)
                            · refine lv_iconst (v := (nI 1)) hx hb dL_isRead_304 (by decide) ?_
                              refine lv_goto (tgt := 309) hx hb dL_isRead_305 (by decide) ?_
                              refine lv_istore (lv' := [(4, .int (nI 1)), (11, .int (nI (zd_m vx vy k65))), (10, .int (zd_l vx vy k65 (zd_m vx vy k65))), (8, .int (zd_z vx vy (nI k65))), (9, .int (nI (zd_m vx vy k65))), (7, .int (nI k65)), (5, .int (nI nn)), (6, .int (nI n)), (0, .ref b), (1, .ref bp), (2, .int vx), (3, .int vy)]) hx hb dL_isRead_309 hl (by decide) rfl (fun ls hl => ?_)
                              refine lv_iinc (v := (nI (k65 + 1))) (lv' := [(7, .int (nI (k65 + 1))), (4, .int (nI 1)), (11, .int (nI (zd_m vx vy k65))), (10, .int (zd_l vx vy k65 (zd_m vx vy k65))), (8, .int (zd_z vx vy (nI k65))), (9, .int (nI (zd_m vx vy k65))), (5, .int (nI nn)), (6, .int (nI n)), (0, .ref b), (1, .ref bp), (2, .int vx), (3, .int vy)]) hx hb dL_isRead_311 hl (k := 5) rfl ((nI_1 k65)) (by decide) rfl (fun ls hl => ?_)
                              refine lv_goto (tgt := 65) hx hb dL_isRead_314 (by decide) ?_
                              exact ih65 M_38 _ _ _ ⟨hW, hS, lv_sub hl [0, 1, 6, 7, 8, 9, 10, 11] rfl, hR1⟩
                    · exact absurd (nI_le (Nat.le_refl _) (by omega)) c_36
                  · obtain ⟨hW, hS, hl, hE154⟩ := hI
                    obtain ⟨s1, s2, s3, s4, s5⟩ := id hE154
                    refine lv_iload hx hb dL_isRead_154 (lv_at hl 0 rfl) ?_
                    refine lv_iload hx hb dL_isRead_156 (lv_at hl 3 rfl) ?_
                    refine lv_icmp_ge (tgt := 257) hx hb dL_isRead_158 (by decide) (fun c_50 => ?_) (fun c_50 => ?_)
                    · exact absurd c_50 (nI_ge hk154 (by omega))
                    · obtain rfl | ⟨i, rfl⟩ : k154 = 0 ∨ ∃ i, k154 = i + 1 := by rcases Nat.eq_zero_or_pos k154 with q | q; exact Or.inl q; exact Or.inr ⟨k154 - 1, by omega⟩
                      · refine lv_iload hx hb dL_isRead_161 (lv_at hl 2 rfl) ?_
                        refine lv_iload hx hb dL_isRead_163 (lv_at hl 0 rfl) ?_
                        refine lv_ishr hx hb dL_isRead_165 ?_
                        refine lv_iload hx hb dL_isRead_166 (lv_at hl 1 rfl) ?_
                        refine lv_if_ge (tgt := 176) hx hb dL_isRead_168 (by decide) (fun c_51 => ?_) (fun c_51 => ?_)
                        · exact absurd c_51 (show ¬ (-1 : Int32) ≥ 0 by decide)
                        · refine lv_bipush (v := (nI 6)) hx hb dL_isRead_171 (by decide) ?_
                          refine lv_goto (tgt := 177) hx hb dL_isRead_173 (by decide) ?_
                          refine xc_i (xr_S (As := [.int ((zd_z vx vy (nI k65)) >>> ((nI 0) &&& 31)), .int (nI 6)]) (rest := []) ⟨hx, hb, hml, hown, hts⟩ (c_L_up l O z154 ((zd_z vx vy (nI k65)) >>> ((nI 0) &&& 31)) (n := 6) (by omega) (by omega)) (va_cwS 2 hts gL_isRead_L_up rfl rfl rfl (by decide +kernel) ⟨Nat.le_of_ble_eq_true rfl, Nat.le_of_ble_eq_true rfl⟩) hK hst hnw hS hW rfl hl.1 rfl (Nat.le_of_ble_eq_true rfl) dL_isRead_177 ⟨Nat.zero_le _, Nat.zero_le _⟩) hS (fun r_54 M_52 H locs hq_53 hW hS => ?_)
                          obtain ⟨hq_53a, hq_53b⟩ := hq_53
                          rw [hq_53b] at hW
                          rw [hq_53a]
                          refine lv_istore (lv' := [(12, .int (nI (zu_u ((zd_z vx vy (nI k65)) >>> ((nI 0) &&& 31)) 6))), (11, .int (nI 0)), (10, .int (zd_l vx vy k65 0)), (8, .int (zd_z vx vy (nI k65))), (9, .int (nI (zd_m vx vy k65))), (7, .int (nI k65)), (4, .int (nI 1)), (5, .int (nI nn)), (6, .int (nI n)), (0, .ref b), (1, .ref bp), (2, .int vx), (3, .int vy)]) hx hb dL_isRead_180 hl (by decide) rfl (fun ls hl => ?_)
                          refine lv_iload hx hb dL_isRead_182 (lv_at hl 2 rfl) ?_
                          refine lv_if_lt (tgt := 201) hx hb dL_isRead_184 (by decide) (fun c_55 => ?_) (fun c_55 => ?_)
                          · refine lv_iload hx hb dL_isRead_201 (lv_at hl 0 rfl) ?_
                            rw [show (nI (zu_u ((zd_z vx vy (nI k65)) >>> ((nI 0) &&& 31)) 6)) = nI (zd_e vx vy k65 0) from rfl]
                            refine lv_istore (lv' := [(12, .int (nI (zd_e vx vy k65 0))), (11, .int (nI 0)), (10, .int (zd_l vx vy k65 0)), (8, .int (zd_z vx vy (nI k65))), (9, .int (nI (zd_m vx vy k65))), (7, .int (nI k65)), (4, .int (nI 1)), (5, .int (nI nn)), (6, .int (nI n)), (0, .ref b), (1, .ref bp), (2, .int vx), (3, .int vy)]) hx hb dL_isRead_203 hl (by decide) rfl (fun ls hl => ?_)
                            refine lv_iload hx hb dL_isRead_205 (lv_at hl 0 rfl) ?_
                            refine lv_istore (lv' := [(10, .int (nI (zd_e vx vy k65 0))), (12, .int (nI (zd_e vx vy k65 0))), (11, .int (nI 0)), (8, .int (zd_z vx vy (nI k65))), (9, .int (nI (zd_m vx vy k65))), (7, .int (nI k65)), (4, .int (nI 1)), (5, .int (nI nn)), (6, .int (nI n)), (0, .ref b), (1, .ref bp), (2, .int vx), (3, .int vy)]) hx hb dL_isRead_207 hl (by decide) rfl (fun ls hl => ?_)
                            refine lv_iload hx hb dL_isRead_209 (lv_at hl 6 rfl) ?_
                            refine lv_if_eq (tgt := 248) hx hb dL_isRead_211 (by decide) (fun c_56 => ?_) (fun c_56 => ?_)
                            · exact absurd c_56 (by decide)
                            · refine lv_aload_n hx hb dL_isRead_214 rfl (lv_at hl 9 rfl) ?_
                              refine lv_bipush (v := (nI 48)) hx hb dL_isRead_215 (by decide) ?_
                              refine lv_iload hx hb dL_isRead_217 (lv_at hl 1 rfl) ?_
                              refine lv_iadd hx hb dL_isRead_219 ?_
                              rw [show (nI 48) + (nI (zd_e vx vy k65 0)) = (nI (48 + zd_e vx vy k65 0)) from nI_add 48 _]
                              refine lv_i2l (v := ((nI (48 + zd_e vx vy k65 0))).toInt64) hx hb dL_isRead_220 rfl ?_
                              have hpb2 : zp b z154 := zp_pd r1 (fun x y1 y2 y3 y4 => s1 x y1 y2 (by omega) (by omega)) (by omega) s2
                              refine xc_i (xr_V (As := [.long ((nI (48 + zd_e vx vy k65 0))).toInt64]) (rest := []) (κ := 16) ⟨hx, hb, hml, hown, hts⟩ (cz_put l O z154 b tb hpb2 (c0 := ((nI (48 + zd_e vx vy k65 0))).toInt64) (q := zt_s (zd_m vx vy) k65 + 0) (by omega) s2 (zc_cs (zd_e6 vx vy k65 0)).1) (cwV 1 hts gL_isRead_X6_put rfl rfl rfl (by decide +kernel) ⟨Nat.le_of_ble_eq_true rfl, Nat.le_of_ble_eq_true rfl⟩) hK hst hnw hS hW tb (by decide) rfl rfl rfl hl.1 rfl (Nat.le_of_ble_eq_true rfl) dL_isRead_221 ⟨Nat.zero_le _, Nat.zero_le _⟩) hS (fun r_59 M_57 H locs hq_58 hW hS => ?_)
                              obtain ⟨hq_58a, hq_58b⟩ := hq_58
                              rw [hq_58a]
                              refine lv_if_le (tgt := 248) hx hb dL_isRead_224 (by decide) (fun c_60 => ?_) (fun c_60 => ?_)
                              · exact absurd c_60 (nI_nle (by omega) (by omega))
                              · refine lv_aload_n hx hb dL_isRead_227 rfl (lv_at hl 10 rfl) ?_
                                refine lv_bipush (v := (nI 48)) hx hb dL_isRead_228 (by decide) ?_
                                refine lv_iload hx hb dL_isRead_230 (lv_at hl 1 rfl) ?_
                                refine lv_iadd hx hb dL_isRead_232 ?_
                                rw [show (nI 48) + (nI (zd_e vx vy k65 0)) = (nI (48 + zd_e vx vy k65 0)) from nI_add 48 _]
                                refine lv_i2l (v := ((nI (48 + zd_e vx vy k65 0))).toInt64) hx hb dL_isRead_233 rfl ?_
                                have hpc2 : zp bp M_57 := zp_fr (zp_pd (M' := z154) r2 (fun x y1 y2 y3 y4 => s1 x (by omega) (by omega) y1 y2) (by omega) s4) (fun x y1 y2 => hq_58b.2.2.2 x (by omega) (by omega))
                                refine xc_i (xr_V (As := [.long ((nI (48 + zd_e vx vy k65 0))).toInt64]) (rest := []) (κ := 16) ⟨hx, hb, hml, hown, hts⟩ (cz_put l O M_57 bp tp hpc2 (c0 := ((nI (48 + zd_e vx vy k65 0))).toInt64) (q := 0) (by omega) (by rw [hq_58b.2.2.2 _ (by omega) (by omega)]; exact s4) (zc_cs (zd_e6 vx vy k65 0)).1) (cwV 1 hts gL_isRead_X6_put rfl rfl rfl (by decide +kernel) ⟨Nat.le_of_ble_eq_true rfl, Nat.le_of_ble_eq_true rfl⟩) hK hst hnw hS hW tp (by decide) rfl rfl rfl hl.1 rfl (Nat.le_of_ble_eq_true rfl) dL_isRead_234 ⟨Nat.zero_le _, Nat.zero_le _⟩) hS (fun r_63 M_61 H locs hq_62 hW hS => ?_)
                                obtain ⟨hq_62a, hq_62b⟩ := hq_62
                                rw [hq_62a]
                                refine lv_iload hx hb dL_isRead_237 (lv_at hl 2 rfl) ?_
                                refine lv_iconst (v := (nI 1)) hx hb dL_isRead_239 (by decide) ?_
                                refine lv_iadd hx hb dL_isRead_240 ?_
                                rw [show (nI 0) + (nI 1) = (nI (0 + 1)) from nI_add _ 1]
                                refine lv_icmp_ne (tgt := 248) hx hb dL_isRead_241 (by decide) (fun c_64 => ?_) (fun c_64 => ?_)
                                · exact absurd c_64 (fun z => z rfl)
                                · refine lv_iconst (v := (nI 1)) hx hb dL_isRead_244 (by decide) ?_
                                  refine lv_goto (tgt := 249) hx hb dL_isRead_245 (by decide) ?_
                                  refine lv_istore (lv' := [(4, .int (nI 1)), (10, .int (nI (zd_e vx vy k65 0))), (12, .int (nI (zd_e vx vy k65 0))), (11, .int (nI 0)), (8, .int (zd_z vx vy (nI k65))), (9, .int (nI (zd_m vx vy k65))), (7, .int (nI k65)), (5, .int (nI nn)), (6, .int (nI n)), (0, .ref b), (1, .ref bp), (2, .int vx), (3, .int vy)]) hx hb dL_isRead_249 hl (by decide) rfl (fun ls hl => ?_)
                                  refine lv_iinc (v := (nI (0 + 1))) (lv' := [(11, .int (nI (0 + 1))), (4, .int (nI 1)), (10, .int (nI (zd_e vx vy k65 0))), (12, .int (nI (zd_e vx vy k65 0))), (8, .int (zd_z vx vy (nI k65))), (9, .int (nI (zd_m vx vy k65))), (7, .int (nI k65)), (5, .int (nI nn)), (6, .int (nI n)), (0, .ref b), (1, .ref bp), (2, .int vx), (3, .int vy)]) hx hb dL_isRead_251 hl (k := 3) rfl ((nI_1 0)) (by decide) rfl (fun ls hl => ?_)
                                  refine lv_goto (tgt := 154) hx hb dL_isRead_254 (by decide) ?_
                                  exact ih154 M_61 _ _ _ ⟨hW, hS, lv_sub hl [0, 2, 4, 5, 6, 1, 7, 8, 9, 10, 11, 12] rfl, (zR2_1 hbc hE154 hk154 (zc_cs (zd_e6 vx vy k65 0)).2 hq_58b hq_62b)⟩
                          · exact absurd (show (-1 : Int32) < 0 by decide) c_55
                      · refine lv_iload hx hb dL_isRead_161 (lv_at hl 2 rfl) ?_
                        refine lv_iload hx hb dL_isRead_163 (lv_at hl 0 rfl) ?_
                        refine lv_ishr hx hb dL_isRead_165 ?_
                        refine lv_iload hx hb dL_isRead_166 (lv_at hl 1 rfl) ?_
                        refine lv_if_ge (tgt := 176) hx hb dL_isRead_168 (by decide) (fun c_65 => ?_) (fun c_65 => ?_)
                        · refine lv_iconst (v := (nI 5)) hx hb dL_isRead_176 (by decide) ?_
                          refine xc_i (xr_S (As := [.int ((zd_z vx vy (nI k65)) >>> ((nI (i + 1)) &&& 31)), .int (nI 5)]) (rest := []) ⟨hx, hb, hml, hown, hts⟩ (c_L_up l O z154 ((zd_z vx vy (nI k65)) >>> ((nI (i + 1)) &&& 31)) (n := 5) (by omega) (by omega)) (va_cwS 2 hts gL_isRead_L_up rfl rfl rfl (by decide +kernel) ⟨Nat.le_of_ble_eq_true rfl, Nat.le_of_ble_eq_true rfl⟩) hK hst hnw hS hW rfl hl.1 rfl (Nat.le_of_ble_eq_true rfl) dL_isRead_177 ⟨Nat.zero_le _, Nat.zero_le _⟩) hS (fun r_68 M_66 H locs hq_67 hW hS => ?_)
                          obtain ⟨hq_67a, hq_67b⟩ := hq_67
                          rw [hq_67b] at hW
                          rw [hq_67a]
                          refine lv_istore (lv' := [(12, .int (nI (zu_u ((zd_z vx vy (nI k65)) >>> ((nI (i + 1)) &&& 31)) 5))), (11, .int (nI (i + 1))), (10, .int (zd_l vx vy k65 (i + 1))), (8, .int (zd_z vx vy (nI k65))), (9, .int (nI (zd_m vx vy k65))), (7, .int (nI k65)), (4, .int (nI 1)), (5, .int (nI nn)), (6, .int (nI n)), (0, .ref b), (1, .ref bp), (2, .int vx), (3, .int vy)]) hx hb dL_isRead_180 hl (by decide) rfl (fun ls hl => ?_)
                          refine lv_iload hx hb dL_isRead_182 (lv_at hl 2 rfl) ?_
                          refine lv_if_lt (tgt := 201) hx hb dL_isRead_184 (by decide) (fun c_69 => ?_) (fun c_69 => ?_)
                          · exact absurd c_69 (nI_pos (by have := zd_e6 vx vy k65 i; omega))
                          · refine lv_iload hx hb dL_isRead_187 (lv_at hl 0 rfl) ?_
                            refine lv_iload hx hb dL_isRead_189 (lv_at hl 2 rfl) ?_
                            refine lv_icmp_lt (tgt := 201) hx hb dL_isRead_191 (by decide) (fun c_70 => ?_) (fun c_70 => ?_)
                            · have hlt : ¬ zd_e vx vy k65 i ≤ (zu_u ((zd_z vx vy (nI k65)) >>> ((nI (i + 1)) &&& 31)) 5) := Nat.not_le.mpr ((nI_ltI (by have := zu_lt (v := (zd_z vx vy (nI k65)) >>> ((nI (i + 1)) &&& 31)) (n := 5) (by omega); omega) (by have := zd_e6 vx vy k65 i; omega)).mp c_70)
                              refine lv_iload hx hb dL_isRead_201 (lv_at hl 0 rfl) ?_
                              rw [show (nI (zu_u ((zd_z vx vy (nI k65)) >>> ((nI (i + 1)) &&& 31)) 5)) = nI (zd_e vx vy k65 (i + 1)) from by show _ = nI (if _ then _ else _); rw [if_neg hlt]]
                              refine lv_istore (lv' := [(12, .int (nI (zd_e vx vy k65 (i + 1)))), (11, .int (nI (i + 1))), (10, .int (zd_l vx vy k65 (i + 1))), (8, .int (zd_z vx vy (nI k65))), (9, .int (nI (zd_m vx vy k65))), (7, .int (nI k65)), (4, .int (nI 1)), (5, .int (nI nn)), (6, .int (nI n)), (0, .ref b), (1, .ref bp), (2, .int vx), (3, .int vy)]) hx hb dL_isRead_203 hl (by decide) rfl (fun ls hl => ?_)
                              refine lv_iload hx hb dL_isRead_205 (lv_at hl 0 rfl) ?_
                              refine lv_istore (lv' := [(10, .int (nI (zd_e vx vy k65 (i + 1)))), (12, .int (nI (zd_e vx vy k65 (i + 1)))), (11, .int (nI (i + 1))), (8, .int (zd_z vx vy (nI k65))), (9, .int (nI (zd_m vx vy k65))), (7, .int (nI k65)), (4, .int (nI 1)), (5, .int (nI nn)), (6, .int (nI n)), (0, .ref b), (1, .ref bp), (2, .int vx), (3, .int vy)]) hx hb dL_isRead_207 hl (by decide) rfl (fun ls hl => ?_)
                              refine lv_iload hx hb dL_isRead_209 (lv_at hl 6 rfl) ?_
                              refine lv_if_eq (tgt := 248) hx hb dL_isRead_211 (by decide) (fun c_71 => ?_) (fun c_71 => ?_)
                              · exact absurd c_71 (by decide)
                              · refine lv_aload_n hx hb dL_isRead_214 rfl (lv_at hl 9 rfl) ?_
                                refine lv_bipush (v := (nI 48)) hx hb dL_isRead_215 (by decide) ?_
                                refine lv_iload hx hb dL_isRead_217 (lv_at hl 1 rfl) ?_
                                refine lv_iadd hx hb dL_isRead_219 ?_
                                rw [show (nI 48) + (nI (zd_e vx vy k65 (i + 1))) = (nI (48 + zd_e vx vy k65 (i + 1))) from nI_add 48 _]
                                refine lv_i2l (v := ((nI (48 + zd_e vx vy k65 (i + 1)))).toInt64) hx hb dL_isRead_220 rfl ?_
                                have hpb2 : zp b z154 := zp_pd r1 (fun x y1 y2 y3 y4 => s1 x y1 y2 (by omega) (by omega)) (by omega) s2
                                refine xc_i (xr_V (As := [.long ((nI (48 + zd_e vx vy k65 (i + 1)))).toInt64]) (rest := []) (κ := 16) ⟨hx, hb, hml, hown, hts⟩ (cz_put l O z154 b tb hpb2 (c0 := ((nI (48 + zd_e vx vy k65 (i + 1)))).toInt64) (q := zt_s (zd_m vx vy) k65 + (i + 1)) (by omega) s2 (zc_cs (zd_e6 vx vy k65 (i + 1))).1) (cwV 1 hts gL_isRead_X6_put rfl rfl rfl (by decide +kernel) ⟨Nat.le_of_ble_eq_true rfl, Nat.le_of_ble_eq_true rfl⟩) hK hst hnw hS hW tb (by decide) rfl rfl rfl hl.1 rfl (Nat.le_of_ble_eq_true rfl) dL_isRead_221 ⟨Nat.zero_le _, Nat.zero_le _⟩) hS (fun r_74 M_72 H locs hq_73 hW hS => ?_)
                                obtain ⟨hq_73a, hq_73b⟩ := hq_73
                                rw [hq_73a]
                                refine lv_if_le (tgt := 248) hx hb dL_isRead_224 (by decide) (fun c_75 => ?_) (fun c_75 => ?_)
                                · exact absurd c_75 (nI_nle (by omega) (by omega))
                                · refine lv_aload_n hx hb dL_isRead_227 rfl (lv_at hl 10 rfl) ?_
                                  refine lv_bipush (v := (nI 48)) hx hb dL_isRead_228 (by decide) ?_
                                  refine lv_iload hx hb dL_isRead_230 (lv_at hl 1 rfl) ?_
                                  refine lv_iadd hx hb dL_isRead_232 ?_
                                  rw [show (nI 48) + (nI (zd_e vx vy k65 (i + 1))) = (nI (48 + zd_e vx vy k65 (i + 1))) from nI_add 48 _]
                                  refine lv_i2l (v := ((nI (48 + zd_e vx vy k65 (i + 1)))).toInt64) hx hb dL_isRead_233 rfl ?_
                                  have hpc2 : zp bp M_72 := zp_fr (zp_pd (M' := z154) r2 (fun x y1 y2 y3 y4 => s1 x (by omega) (by omega) y1 y2) (by omega) s4) (fun x y1 y2 => hq_73b.2.2.2 x (by omega) (by omega))
                                  refine xc_i (xr_V (As := [.long ((nI (48 + zd_e vx vy k65 (i + 1)))).toInt64]) (rest := []) (κ := 16) ⟨hx, hb, hml, hown, hts⟩ (cz_put l O M_72 bp tp hpc2 (c0 := ((nI (48 + zd_e vx vy k65 (i + 1)))).toInt64) (q := (i + 1)) (by omega) (by rw [hq_73b.2.2.2 _ (by omega) (by omega)]; exact s4) (zc_cs (zd_e6 vx vy k65 (i + 1))).1) (cwV 1 hts gL_isRead_X6_put rfl rfl rfl (by decide +kernel) ⟨Nat.le_of_ble_eq_true rfl, Nat.le_of_ble_eq_true rfl⟩) hK hst hnw hS hW tp (by decide) rfl rfl rfl hl.1 rfl (Nat.le_of_ble_eq_true rfl) dL_isRead_234 ⟨Nat.zero_le _, Nat.zero_le _⟩) hS (fun r_78 M_76 H locs hq_77 hW hS => ?_)
                                  obtain ⟨hq_77a, hq_77b⟩ := hq_77
                                  rw [hq_77a]
                                  refine lv_iload hx hb dL_isRead_237 (lv_at hl 2 rfl) ?_
                                  refine lv_iconst (v := (nI 1)) hx hb dL_isRead_239 (by decide) ?_
                                  refine lv_iadd hx hb dL_isRead_240 ?_
                                  rw [show (nI (i + 1)) + (nI 1) = (nI ((i + 1) + 1)) from nI_add _ 1]
                                  refine lv_icmp_ne (tgt := 248) hx hb dL_isRead_241 (by decide) (fun c_79 => ?_) (fun c_79 => ?_)
                                  · exact absurd c_79 (fun z => z rfl)
                                  · refine lv_iconst (v := (nI 1)) hx hb dL_isRead_244 (by decide) ?_
                                    refine lv_goto (tgt := 249) hx hb dL_isRead_245 (by decide) ?_
                                    refine lv_istore (lv' := [(4, .int (nI 1)), (10, .int (nI (zd_e vx vy k65 (i + 1)))), (12, .int (nI (zd_e vx vy k65 (i + 1)))), (11, .int (nI (i + 1))), (8, .int (zd_z vx vy (nI k65))), (9, .int (nI (zd_m vx vy k65))), (7, .int (nI k65)), (5, .int (nI nn)), (6, .int (nI n)), (0, .ref b), (1, .ref bp), (2, .int vx), (3, .int vy)]) hx hb dL_isRead_249 hl (by decide) rfl (fun ls hl => ?_)
                                    refine lv_iinc (v := (nI ((i + 1) + 1))) (lv' := [(11, .int (nI ((i + 1) + 1))), (4, .int (nI 1)), (10, .int (nI (zd_e vx vy k65 (i + 1)))), (12, .int (nI (zd_e vx vy k65 (i + 1)))), (8, .int (zd_z vx vy (nI k65))), (9, .int (nI (zd_m vx vy k65))), (7, .int (nI k65)), (5, .int (nI nn)), (6, .int (nI n)), (0, .ref b), (1, .ref bp), (2, .int vx), (3, .int vy)]) hx hb dL_isRead_251 hl (k := 3) rfl ((nI_1 (i + 1))) (by decide) rfl (fun ls hl => ?_)
                                    refine lv_goto (tgt := 154) hx hb dL_isRead_254 (by decide) ?_
                                    exact ih154 M_76 _ _ _ ⟨hW, hS, lv_sub hl [0, 2, 4, 5, 6, 1, 7, 8, 9, 10, 11, 12] rfl, (zR2_1 hbc hE154 hk154 (zc_cs (zd_e6 vx vy k65 (i + 1))).2 hq_73b hq_77b)⟩
                            · have hlt : zd_e vx vy k65 i ≤ (zu_u ((zd_z vx vy (nI k65)) >>> ((nI (i + 1)) &&& 31)) 5) := by rcases Nat.lt_or_ge (zu_u ((zd_z vx vy (nI k65)) >>> ((nI (i + 1)) &&& 31)) 5) (zd_e vx vy k65 i) with q | q; exact absurd (nI_lt q (by have := zd_e6 vx vy k65 i; omega)) c_70; exact q
                              refine lv_iload hx hb dL_isRead_194 (lv_at hl 0 rfl) ?_
                              refine lv_iconst (v := (nI 1)) hx hb dL_isRead_196 (by decide) ?_
                              refine lv_iadd hx hb dL_isRead_197 ?_
                              refine lv_goto (tgt := 203) hx hb dL_isRead_198 (by decide) ?_
                              rw [show ((nI (zu_u ((zd_z vx vy (nI k65)) >>> ((nI (i + 1)) &&& 31)) 5)) + (nI 1)) = nI (zd_e vx vy k65 (i + 1)) from by show _ = nI (if _ then _ else _); rw [if_pos hlt]; exact nI_add _ 1]
                              refine lv_istore (lv' := [(12, .int (nI (zd_e vx vy k65 (i + 1)))), (11, .int (nI (i + 1))), (10, .int (zd_l vx vy k65 (i + 1))), (8, .int (zd_z vx vy (nI k65))), (9, .int (nI (zd_m vx vy k65))), (7, .int (nI k65)), (4, .int (nI 1)), (5, .int (nI nn)), (6, .int (nI n)), (0, .ref b), (1, .ref bp), (2, .int vx), (3, .int vy)]) hx hb dL_isRead_203 hl (by decide) rfl (fun ls hl => ?_)
                              refine lv_iload hx hb dL_isRead_205 (lv_at hl 0 rfl) ?_
                              refine lv_istore (lv' := [(10, .int (nI (zd_e vx vy k65 (i + 1)))), (12, .int (nI (zd_e vx vy k65 (i + 1)))), (11, .int (nI (i + 1))), (8, .int (zd_z vx vy (nI k65))), (9, .int (nI (zd_m vx vy k65))), (7, .int (nI k65)), (4, .int (nI 1)), (5, .int (nI nn)), (6, .int (nI n)), (0, .ref b), (1, .ref bp), (2, .int vx), (3, .int vy)]) hx hb dL_isRead_207 hl (by decide) rfl (fun ls hl => ?_)
                              refine lv_iload hx hb dL_isRead_209 (lv_at hl 6 rfl) ?_
                              refine lv_if_eq (tgt := 248) hx hb dL_isRead_211 (by decide) (fun c_80 => ?_) (fun c_80 => ?_)
                              · exact absurd c_80 (by decide)
                              · refine lv_aload_n hx hb dL_isRead_214 rfl (lv_at hl 9 rfl) ?_
                                refine lv_bipush (v := (nI 48)) hx hb dL_isRead_215 (by decide) ?_
                                refine lv_iload hx hb dL_isRead_217 (lv_at hl 1 rfl) ?_
                                refine lv_iadd hx hb dL_isRead_219 ?_
                                rw [show (nI 48) + (nI (zd_e vx vy k65 (i + 1))) = (nI (48 + zd_e vx vy k65 (i + 1))) from nI_add 48 _]
                                refine lv_i2l (v := ((nI (48 + zd_e vx vy k65 (i + 1)))).toInt64) hx hb dL_isRead_220 rfl ?_
                                have hpb2 : zp b z154 := zp_pd r1 (fun x y1 y2 y3 y4 => s1 x y1 y2 (by omega) (by omega)) (by omega) s2
                                refine xc_i (xr_V (As := [.long ((nI (48 + zd_e vx vy k65 (i + 1)))).toInt64]) (rest := []) (κ := 16) ⟨hx, hb, hml, hown, hts⟩ (cz_put l O z154 b tb hpb2 (c0 := ((nI (48 + zd_e vx vy k65 (i + 1)))).toInt64) (q := zt_s (zd_m vx vy) k65 + (i + 1)) (by omega) s2 (zc_cs (zd_e6 vx vy k65 (i + 1))).1) (cwV 1 hts gL_isRead_X6_put rfl rfl rfl (by decide +kernel) ⟨Nat.le_of_ble_eq_true rfl, Nat.le_of_ble_eq_true rfl⟩) hK hst hnw hS hW tb (by decide) rfl rfl rfl hl.1 rfl (Nat.le_of_ble_eq_true rfl) dL_isRead_221 ⟨Nat.zero_le _, Nat.zero_le _⟩) hS (fun r_83 M_81 H locs hq_82 hW hS => ?_)
                                obtain ⟨hq_82a, hq_82b⟩ := hq_82
                                rw [hq_82a]
                                refine lv_if_le (tgt := 248) hx hb dL_isRead_224 (by decide) (fun c_84 => ?_) (fun c_84 => ?_)
                                · exact absurd c_84 (nI_nle (by omega) (by omega))
                                · refine lv_aload_n hx hb dL_isRead_227 rfl (lv_at hl 10 rfl) ?_
                                  refine lv_bipush (v := (nI 48)) hx hb dL_isRead_228 (by decide) ?_
                                  refine lv_iload hx hb dL_isRead_230 (lv_at hl 1 rfl) ?_
                                  refine lv_iadd hx hb dL_isRead_232 ?_
                                  rw [show (nI 48) + (nI (zd_e vx vy k65 (i + 1))) = (nI (48 + zd_e vx vy k65 (i + 1))) from nI_add 48 _]
                                  refine lv_i2l (v := ((nI (48 + zd_e vx vy k65 (i + 1)))).toInt64) hx hb dL_isRead_233 rfl ?_
                                  have hpc2 : zp bp M_81 := zp_fr (zp_pd (M' := z154) r2 (fun x y1 y2 y3 y4 => s1 x (by omega) (by omega) y1 y2) (by omega) s4) (fun x y1 y2 => hq_82b.2.2.2 x (by omega) (by omega))
                                  refine xc_i (xr_V (As := [.long ((nI (48 + zd_e vx vy k65 (i + 1)))).toInt64]) (rest := []) (κ := 16) ⟨hx, hb, hml, hown, hts⟩ (cz_put l O M_81 bp tp hpc2 (c0 := ((nI (48 + zd_e vx vy k65 (i + 1)))).toInt64) (q := (i + 1)) (by omega) (by rw [hq_82b.2.2.2 _ (by omega) (by omega)]; exact s4) (zc_cs (zd_e6 vx vy k65 (i + 1))).1) (cwV 1 hts gL_isRead_X6_put rfl rfl rfl (by decide +kernel) ⟨Nat.le_of_ble_eq_true rfl, Nat.le_of_ble_eq_true rfl⟩) hK hst hnw hS hW tp (by decide) rfl rfl rfl hl.1 rfl (Nat.le_of_ble_eq_true rfl) dL_isRead_234 ⟨Nat.zero_le _, Nat.zero_le _⟩) hS (fun r_87 M_85 H locs hq_86 hW hS => ?_)
                                  obtain ⟨hq_86a, hq_86b⟩ := hq_86
                                  rw [hq_86a]
                                  refine lv_iload hx hb dL_isRead_237 (lv_at hl 2 rfl) ?_
                                  refine lv_iconst (v := (nI 1)) hx hb dL_isRead_239 (by decide) ?_
                                  refine lv_iadd hx hb dL_isRead_240 ?_
                                  rw [show (nI (i + 1)) + (nI 1) = (nI ((i + 1) + 1)) from nI_add _ 1]
                                  refine lv_icmp_ne (tgt := 248) hx hb dL_isRead_241 (by decide) (fun c_88 => ?_) (fun c_88 => ?_)
                                  · exact absurd c_88 (fun z => z rfl)
                                  · refine lv_iconst (v := (nI 1)) hx hb dL_isRead_244 (by decide) ?_
                                    refine lv_goto (tgt := 249) hx hb dL_isRead_245 (by decide) ?_
                                    refine lv_istore (lv' := [(4, .int (nI 1)), (10, .int (nI (zd_e vx vy k65 (i + 1)))), (12, .int (nI (zd_e vx vy k65 (i + 1)))), (11, .int (nI (i + 1))), (8, .int (zd_z vx vy (nI k65))), (9, .int (nI (zd_m vx vy k65))), (7, .int (nI k65)), (5, .int (nI nn)), (6, .int (nI n)), (0, .ref b), (1, .ref bp), (2, .int vx), (3, .int vy)]) hx hb dL_isRead_249 hl (by decide) rfl (fun ls hl => ?_)
                                    refine lv_iinc (v := (nI ((i + 1) + 1))) (lv' := [(11, .int (nI ((i + 1) + 1))), (4, .int (nI 1)), (10, .int (nI (zd_e vx vy k65 (i + 1)))), (12, .int (nI (zd_e vx vy k65 (i + 1)))), (8, .int (zd_z vx vy (nI k65))), (9, .int (nI (zd_m vx vy k65))), (7, .int (nI k65)), (5, .int (nI nn)), (6, .int (nI n)), (0, .ref b), (1, .ref bp), (2, .int vx), (3, .int vy)]) hx hb dL_isRead_251 hl (k := 3) rfl ((nI_1 (i + 1))) (by decide) rfl (fun ls hl => ?_)
                                    refine lv_goto (tgt := 154) hx hb dL_isRead_254 (by decide) ?_
                                    exact ih154 M_85 _ _ _ ⟨hW, hS, lv_sub hl [0, 2, 4, 5, 6, 1, 7, 8, 9, 10, 11, 12] rfl, (zR2_1 hbc hE154 hk154 (zc_cs (zd_e6 vx vy k65 (i + 1))).2 hq_82b hq_86b)⟩
                        · exact absurd (nI_pos' (by have := zd_e6 vx vy k65 i; omega)) c_65
              · have hk0 : 0 < k65 := by rcases Nat.eq_zero_or_pos k65 with q | q; exact absurd (by rw [q]; rfl) c_31; exact q
                refine lv_aload_n hx hb dL_isRead_127 rfl (lv_at hl 7 rfl) ?_
                refine lv_ldc2 (v := 44) hx hb hown (hts (.constantLong RL 31 (44)) (List.mem_of_getElem? (i := 2) (by decide +kernel))) dL_isRead_128 ?_
                have hLk := l2 hk0
                refine xc_i (xr_V (As := [.long (44 : Int64)]) (rest := []) (κ := 16) ⟨hx, hb, hml, hown, hts⟩ (cz_put l O z65 b tb r1 (c0 := 44) (q := Lk) (by omega) l3 zc_cc.1) (cwV 1 hts gL_isRead_X6_put rfl rfl rfl (by decide +kernel) ⟨Nat.le_of_ble_eq_true rfl, Nat.le_of_ble_eq_true rfl⟩) hK hst hnw hS hW tb (by decide) rfl rfl rfl hl.1 rfl (Nat.le_of_ble_eq_true rfl) dL_isRead_131 ⟨Nat.zero_le _, Nat.zero_le _⟩) hS (fun r_91 M_89 H locs hq_90 hW hS => ?_)
                obtain ⟨hq_90a, hq_90b⟩ := hq_90
                rw [hq_90a]
                have hpc1 : zp bp M_89 := zp_fr r2 (fun x y1 y2 => hq_90b.2.2.2 x (by omega) (by omega))
                refine lv_if_le (tgt := 148) hx hb dL_isRead_134 (by decide) (fun c_92 => ?_) (fun c_92 => ?_)
                · exact absurd c_92 (nI_nle (by omega) (by omega))
                · refine lv_aload_n hx hb dL_isRead_137 rfl (lv_at hl 8 rfl) ?_
                  obtain ⟨-, -, LC, hLC, hLCM⟩ := id hpc1
                  refine xc_i (xr_V (As := []) (rest := []) (κ := 16) ⟨hx, hb, hml, hown, hts⟩ (cz_wipe l O M_89 bp tp hpc1) (cwV 0 hts gL_isRead_X6_wipe rfl rfl rfl (by decide +kernel) ⟨Nat.le_of_ble_eq_true rfl, Nat.le_of_ble_eq_true rfl⟩) hK hst hnw hS hW tp (by decide) rfl rfl rfl hl.1 rfl (Nat.le_of_ble_eq_true rfl) dL_isRead_138 ⟨Nat.zero_le _, Nat.zero_le _⟩) hS (fun r_95 M_93 H locs hq_94 hW hS => ?_)
                  obtain ⟨hq_94a, hq_94b⟩ := hq_94
                  rw [hq_94a, hLCM]
                  have hJ0 : zR2 b bp (zd_m vx vy) (zd_e vx vy) k65 0 z65 M_93 := by rw [hq_94b]; exact zR2_c hbc hE65 hk0 l3 l60 hq_90b
                  refine lv_if_lt (tgt := 148) hx hb dL_isRead_141 (by decide) (fun c_96 => ?_) (fun c_96 => ?_)
                  · exact absurd c_96 (nI_pos (by omega))
                  · refine lv_iconst (v := (nI 1)) hx hb dL_isRead_144 (by decide) ?_
                    refine lv_goto (tgt := 149) hx hb dL_isRead_145 (by decide) ?_
                    refine lv_istore (lv' := [(4, .int (nI 1)), (10, .int (-1)), (9, .int (nI (zd_m vx vy k65))), (8, .int (zd_z vx vy (nI k65))), (7, .int (nI k65)), (5, .int (nI nn)), (6, .int (nI n)), (0, .ref b), (1, .ref bp), (2, .int vx), (3, .int vy)]) hx hb dL_isRead_149 hl (by decide) rfl (fun ls hl => ?_)
                    refine lv_iconst (v := (nI 0)) hx hb dL_isRead_151 (by decide) ?_
                    refine lv_istore (lv' := [(11, .int (nI 0)), (4, .int (nI 1)), (10, .int (-1)), (9, .int (nI (zd_m vx vy k65))), (8, .int (zd_z vx vy (nI k65))), (7, .int (nI k65)), (5, .int (nI nn)), (6, .int (nI n)), (0, .ref b), (1, .ref bp), (2, .int vx), (3, .int vy)]) hx hb dL_isRead_152 hl (by decide) rfl (fun ls hl => ?_)
                    refine xl_up (σ := xm_T) (zd_m vx vy k65) (fun kk zz H locs ls => xw_D G g τ zz H ∧ va_S A s.heap H locs ∧ lv_has ls 13 [(11, .int (nI kk)), (10, .int (zd_l vx vy k65 kk)), (8, .int (zd_z vx vy (nI k65))), (9, .int (nI (zd_m vx vy k65))), (7, .int (nI k65)), (4, .int (nI 1)), (5, .int (nI nn)), (6, .int (nI n)), (0, .ref b), (1, .ref bp), (2, .int vx), (3, .int vy)] ∧ zR2 b bp (zd_m vx vy) (zd_e vx vy) k65 kk z65 zz) (fun z154 H locs ls hI => ?_) (fun k154 z154 H locs ls hk154 hI ih154 => ?_) (k0 := 0) (z0 := M_93) (Nat.zero_le _) ⟨hW, hS, lv_sub hl [0, 2, 4, 3, 5, 1, 6, 7, 8, 9, 10, 11] rfl, hJ0⟩
                    · obtain ⟨hW, hS, hl, hE154⟩ := hI
                      refine lv_iload hx hb dL_isRead_154 (lv_at hl 0 rfl) ?_
                      refine lv_iload hx hb dL_isRead_156 (lv_at hl 3 rfl) ?_
                      refine lv_icmp_ge (tgt := 257) hx hb dL_isRead_158 (by decide) (fun c_97 => ?_) (fun c_97 => ?_)
                      · refine lv_iload hx hb dL_isRead_257 (lv_at hl 5 rfl) ?_
                        refine lv_if_eq (tgt := 308) hx hb dL_isRead_259 (by decide) (fun c_98 => ?_) (fun c_98 => ?_)
                        · exact absurd c_98 (by decide)
                        · refine lv_aload_n hx hb dL_isRead_262 rfl (lv_at hl 9 rfl) ?_
                          obtain ⟨s1, s2, s3, s4, s5⟩ := id hE154
                          have hzal := zi_al hz k65 (zd_v vx vy k65) (by omega)
                          have hzc := zi_g (zi_g hzal r4) (zg_of (a := bp + 1) (M' := z154) (fun x y1 y2 => s1 x (by omega) (by omega) (by omega) (by omega)))
                          have hpc3 : zp bp z154 := zp_pd r2 (fun x y1 y2 y3 y4 => s1 x (by omega) (by omega) y1 y2) (by omega) s4
                          have hv1 : zt_v 1 (fun _ => zd_m vx vy k65) (fun _ => zd_e vx vy k65) := fun k _ => ⟨hm9.1, hm9.2, fun j _ => zd_e6 vx vy k65 j, fun j _ => zd_en vx vy k65 j⟩
                          refine xc_i (xr_V (As := []) (rest := []) (κ := 16) ⟨hx, hb, hml, hown, hts⟩ (cz_read l O z154 bp tp hpc3 hzc (NN := 1) (L := zd_m vx vy k65) (em := fun _ => zd_m vx vy k65) (ee := fun _ => zd_e vx vy k65) (by omega) s4 s5 hv1 (by show _ = 0 + zd_m vx vy k65 + 1; omega) (by omega)) (cwV 0 hts gL_isRead_X6_read rfl rfl rfl (by decide +kernel) ⟨Nat.le_of_ble_eq_true rfl, Nat.le_of_ble_eq_true rfl⟩) hK hst hnw hS hW tp (by decide) rfl rfl rfl hl.1 rfl (Nat.le_of_ble_eq_true rfl) dL_isRead_263 ⟨Nat.zero_le _, Nat.zero_le _⟩) hS (fun r_101 M_99 H locs hq_100 hW hS => ?_)
                          obtain ⟨hq_100a, hq_100b, hq_100c⟩ := hq_100
                          rw [hq_100a]
                          have hzw := zad_w hzc (m := zd_m vx vy k65) (e := fun j => nI (zd_e vx vy k65 j)) (by omega) (by omega) ⟨_, zd_e6 vx vy k65 0, rfl⟩
                          have hz3 : zi (bp + 1) M_99 (nn + k65 + 1) TT TT (20 + 14256 * NN) := zi_g (zi_al hzc 1 hv1 (by omega)) (zq_n hq_100b)
                          have hR1 : zR b bp M (zd_m vx vy) (zd_e vx vy) (k65 + 1) M_99 := zR_1 hbc hE65 hE154 (by omega) hq_100b
                          refine lv_iload hx hb dL_isRead_266 (lv_at hl 6 rfl) ?_
                          refine lv_iload hx hb dL_isRead_268 (lv_at hl 4 rfl) ?_
                          refine lv_iadd hx hb dL_isRead_270 ?_
                          rw [show (nI nn) + (nI k65) = (nI (nn + k65)) from nI_add nn k65]
                          refine lv_iconst (v := (nI 1)) hx hb dL_isRead_271 (by decide) ?_
                          refine lv_iadd hx hb dL_isRead_272 ?_
                          rw [show (nI (nn + k65)) + (nI 1) = (nI (nn + k65 + 1)) from nI_add _ 1]
                          refine lv_icmp_ne (tgt := 308) hx hb dL_isRead_273 (by decide) (fun c_102 => ?_) (fun c_102 => ?_)
                          · exact absurd c_102 (fun z => z rfl)
                          · refine lv_aload_n hx hb dL_isRead_276 rfl (lv_at hl 9 rfl) ?_
                            refine lv_iload hx hb dL_isRead_277 (lv_at hl 6 rfl) ?_
                            refine lv_iload hx hb dL_isRead_279 (lv_at hl 4 rfl) ?_
                            refine lv_iadd hx hb dL_isRead_281 ?_
                            rw [show (nI nn) + (nI k65) = (nI (nn + k65)) from nI_add nn k65]
                            refine lv_iconst (v := (nI 5)) hx hb dL_isRead_282 (by decide) ?_
                            refine xc_i (xr_V (As := [.int (nI (nn + k65)), .int (nI 5)]) (rest := []) (κ := 16) ⟨hx, hb, hml, hown, hts⟩ (cz_person l O M_99 bp tp hz3 (k := (nn + k65)) (jj := 5) (by omega) (by omega)) (cwV 2 hts gL_isRead_X6_person rfl rfl rfl (by decide +kernel) ⟨Nat.le_of_ble_eq_true rfl, Nat.le_of_ble_eq_true rfl⟩) hK hst hnw hS hW tp (by decide) rfl rfl rfl hl.1 rfl (Nat.le_of_ble_eq_true rfl) dL_isRead_283 ⟨Nat.zero_le _, Nat.zero_le _⟩) hS (fun r_105 M_103 H locs hq_104 hW hS => ?_)
                            obtain ⟨hq_104a, hq_104b⟩ := hq_104
                            rw [hq_104b] at hW
                            rw [hq_104a]
                            rw [show (zf_pe (bp + 1) M_99 (nn + k65) 5) = (nI (zd_m vx vy k65)) from (by show M_99 (bp + 1 + 2 * (nn + k65) + 34) 2 = _; rw [hq_100b.2.2.1 _ (by omega) (by omega)]; exact hzw.1)]
                            refine lv_iload hx hb dL_isRead_286 (lv_at hl 3 rfl) ?_
                            refine lv_icmp_ne (tgt := 308) hx hb dL_isRead_288 (by decide) (fun c_106 => ?_) (fun c_106 => ?_)
                            · exact absurd c_106 (fun z => z rfl)
                            · refine lv_aload_n hx hb dL_isRead_291 rfl (lv_at hl 9 rfl) ?_
                              refine lv_iload hx hb dL_isRead_292 (lv_at hl 6 rfl) ?_
                              refine lv_iload hx hb dL_isRead_294 (lv_at hl 4 rfl) ?_
                              refine lv_iadd hx hb dL_isRead_296 ?_
                              rw [show (nI nn) + (nI k65) = (nI (nn + k65)) from nI_add nn k65]
                              refine lv_iconst (v := (nI 0)) hx hb dL_isRead_297 (by decide) ?_
                              refine xc_i (xr_V (As := [.int (nI (nn + k65)), .int (nI 0)]) (rest := []) (κ := 16) ⟨hx, hb, hml, hown, hts⟩ (cz_person l O M_99 bp tp hz3 (k := (nn + k65)) (jj := 0) (by omega) (by omega)) (cwV 2 hts gL_isRead_X6_person rfl rfl rfl (by decide +kernel) ⟨Nat.le_of_ble_eq_true rfl, Nat.le_of_ble_eq_true rfl⟩) hK hst hnw hS hW tp (by decide) rfl rfl rfl hl.1 rfl (Nat.le_of_ble_eq_true rfl) dL_isRead_298 ⟨Nat.zero_le _, Nat.zero_le _⟩) hS (fun r_109 M_107 H locs hq_108 hW hS => ?_)
                              obtain ⟨hq_108a, hq_108b⟩ := hq_108
                              rw [hq_108b] at hW
                              rw [hq_108a]
                              rw [show (zf_pe (bp + 1) M_99 (nn + k65) 0) = (nI 0) from (by show M_99 (bp + 1 + 2 * (nn + k65) + 34) 3 = _; rw [hq_100b.2.2.1 _ (by omega) (by omega)]; exact hzw.2)]
                              refine lv_if_ne (tgt := 308) hx hb dL_isRead_301 (by decide) (fun c_110 => ?_) (fun c_110 => ?_)
                              · exact absurd c_110 (fun z => z rfl)
                              · refine lv_iconst (v := (nI 1)) hx hb dL_isRead_304 (by decide) ?_
                                refine lv_goto (tgt := 309) hx hb dL_isRead_305 (by decide) ?_
                                refine lv_istore (lv' := [(4, .int (nI 1)), (11, .int (nI (zd_m vx vy k65))), (10, .int (zd_l vx vy k65 (zd_m vx vy k65))), (8, .int (zd_z vx vy (nI k65))), (9, .int (nI (zd_m vx vy k65))), (7, .int (nI k65)), (5, .int (nI nn)), (6, .int (nI n)), (0, .ref b), (1, .ref bp), (2, .int vx), (3, .int vy)]) hx hb dL_isRead_309 hl (by decide) rfl (fun ls hl => ?_)
                                refine lv_iinc (v := (nI (k65 + 1))) (lv' := [(7, .int (nI (k65 + 1))), (4, .int (nI 1)), (11, .int (nI (zd_m vx vy k65))), (10, .int (zd_l vx vy k65 (zd_m vx vy k65))), (8, .int (zd_z vx vy (nI k65))), (9, .int (nI (zd_m vx vy k65))), (5, .int (nI nn)), (6, .int (nI n)), (0, .ref b), (1, .ref bp), (2, .int vx), (3, .int vy)]) hx hb dL_isRead_311 hl (k := 5) rfl ((nI_1 k65)) (by decide) rfl (fun ls hl => ?_)
                                refine lv_goto (tgt := 65) hx hb dL_isRead_314 (by decide) ?_
                                exact ih65 M_99 _ _ _ ⟨hW, hS, lv_sub hl [0, 1, 6, 7, 8, 9, 10, 11] rfl, hR1⟩
                      · exact absurd (nI_le (Nat.le_refl _) (by omega)) c_97
                    · obtain ⟨hW, hS, hl, hE154⟩ := hI
                      obtain ⟨s1, s2, s3, s4, s5⟩ := id hE154
                      refine lv_iload hx hb dL_isRead_154 (lv_at hl 0 rfl) ?_
                      refine lv_iload hx hb dL_isRead_156 (lv_at hl 3 rfl) ?_
                      refine lv_icmp_ge (tgt := 257) hx hb dL_isRead_158 (by decide) (fun c_111 => ?_) (fun c_111 => ?_)
                      · exact absurd c_111 (nI_ge hk154 (by omega))
                      · obtain rfl | ⟨i, rfl⟩ : k154 = 0 ∨ ∃ i, k154 = i + 1 := by rcases Nat.eq_zero_or_pos k154 with q | q; exact Or.inl q; exact Or.inr ⟨k154 - 1, by omega⟩
                        · refine lv_iload hx hb dL_isRead_161 (lv_at hl 2 rfl) ?_
                          refine lv_iload hx hb dL_isRead_163 (lv_at hl 0 rfl) ?_
                          refine lv_ishr hx hb dL_isRead_165 ?_
                          refine lv_iload hx hb dL_isRead_166 (lv_at hl 1 rfl) ?_
                          refine lv_if_ge (tgt := 176) hx hb dL_isRead_168 (by decide) (fun c_112 => ?_) (fun c_112 => ?_)
                          · exact absurd c_112 (show ¬ (-1 : Int32) ≥ 0 by decide)
                          · refine lv_bipush (v := (nI 6)) hx hb dL_isRead_171 (by decide) ?_
                            refine lv_goto (tgt := 177) hx hb dL_isRead_173 (by decide) ?_
                            refine xc_i (xr_S (As := [.int ((zd_z vx vy (nI k65)) >>> ((nI 0) &&& 31)), .int (nI 6)]) (rest := []) ⟨hx, hb, hml, hown, hts⟩ (c_L_up l O z154 ((zd_z vx vy (nI k65)) >>> ((nI 0) &&& 31)) (n := 6) (by omega) (by omega)) (va_cwS 2 hts gL_isRead_L_up rfl rfl rfl (by decide +kernel) ⟨Nat.le_of_ble_eq_true rfl, Nat.le_of_ble_eq_true rfl⟩) hK hst hnw hS hW rfl hl.1 rfl (Nat.le_of_ble_eq_true rfl) dL_isRead_177 ⟨Nat.zero_le _, Nat.zero_le _⟩) hS (fun r_115 M_113 H locs hq_114 hW hS => ?_)
                            obtain ⟨hq_114a, hq_114b⟩ := hq_114
                            rw [hq_114b] at hW
                            rw [hq_114a]
                            refine lv_istore (lv' := [(12, .int (nI (zu_u ((zd_z vx vy (nI k65)) >>> ((nI 0) &&& 31)) 6))), (11, .int (nI 0)), (10, .int (zd_l vx vy k65 0)), (8, .int (zd_z vx vy (nI k65))), (9, .int (nI (zd_m vx vy k65))), (7, .int (nI k65)), (4, .int (nI 1)), (5, .int (nI nn)), (6, .int (nI n)), (0, .ref b), (1, .ref bp), (2, .int vx), (3, .int vy)]) hx hb dL_isRead_180 hl (by decide) rfl (fun ls hl => ?_)
                            refine lv_iload hx hb dL_isRead_182 (lv_at hl 2 rfl) ?_
                            refine lv_if_lt (tgt := 201) hx hb dL_isRead_184 (by decide) (fun c_116 => ?_) (fun c_116 => ?_)
                            · refine lv_iload hx hb dL_isRead_201 (lv_at hl 0 rfl) ?_
                              rw [show (nI (zu_u ((zd_z vx vy (nI k65)) >>> ((nI 0) &&& 31)) 6)) = nI (zd_e vx vy k65 0) from rfl]
                              refine lv_istore (lv' := [(12, .int (nI (zd_e vx vy k65 0))), (11, .int (nI 0)), (10, .int (zd_l vx vy k65 0)), (8, .int (zd_z vx vy (nI k65))), (9, .int (nI (zd_m vx vy k65))), (7, .int (nI k65)), (4, .int (nI 1)), (5, .int (nI nn)), (6, .int (nI n)), (0, .ref b), (1, .ref bp), (2, .int vx), (3, .int vy)]) hx hb dL_isRead_203 hl (by decide) rfl (fun ls hl => ?_)
                              refine lv_iload hx hb dL_isRead_205 (lv_at hl 0 rfl) ?_
                              refine lv_istore (lv' := [(10, .int (nI (zd_e vx vy k65 0))), (12, .int (nI (zd_e vx vy k65 0))), (11, .int (nI 0)), (8, .int (zd_z vx vy (nI k65))), (9, .int (nI (zd_m vx vy k65))), (7, .int (nI k65)), (4, .int (nI 1)), (5, .int (nI nn)), (6, .int (nI n)), (0, .ref b), (1, .ref bp), (2, .int vx), (3, .int vy)]) hx hb dL_isRead_207 hl (by decide) rfl (fun ls hl => ?_)
                              refine lv_iload hx hb dL_isRead_209 (lv_at hl 6 rfl) ?_
                              refine lv_if_eq (tgt := 248) hx hb dL_isRead_211 (by decide) (fun c_117 => ?_) (fun c_117 => ?_)
                              · exact absurd c_117 (by decide)
                              · refine lv_aload_n hx hb dL_isRead_214 rfl (lv_at hl 9 rfl) ?_
                                refine lv_bipush (v := (nI 48)) hx hb dL_isRead_215 (by decide) ?_
                                refine lv_iload hx hb dL_isRead_217 (lv_at hl 1 rfl) ?_
                                refine lv_iadd hx hb dL_isRead_219 ?_
                                rw [show (nI 48) + (nI (zd_e vx vy k65 0)) = (nI (48 + zd_e vx vy k65 0)) from nI_add 48 _]
                                refine lv_i2l (v := ((nI (48 + zd_e vx vy k65 0))).toInt64) hx hb dL_isRead_220 rfl ?_
                                have hpb2 : zp b z154 := zp_pd r1 (fun x y1 y2 y3 y4 => s1 x y1 y2 (by omega) (by omega)) (by omega) s2
                                refine xc_i (xr_V (As := [.long ((nI (48 + zd_e vx vy k65 0))).toInt64]) (rest := []) (κ := 16) ⟨hx, hb, hml, hown, hts⟩ (cz_put l O z154 b tb hpb2 (c0 := ((nI (48 + zd_e vx vy k65 0))).toInt64) (q := zt_s (zd_m vx vy) k65 + 0) (by omega) s2 (zc_cs (zd_e6 vx vy k65 0)).1) (cwV 1 hts gL_isRead_X6_put rfl rfl rfl (by decide +kernel) ⟨Nat.le_of_ble_eq_true rfl, Nat.le_of_ble_eq_true rfl⟩) hK hst hnw hS hW tb (by decide) rfl rfl rfl hl.1 rfl (Nat.le_of_ble_eq_true rfl) dL_isRead_221 ⟨Nat.zero_le _, Nat.zero_le _⟩) hS (fun r_120 M_118 H locs hq_119 hW hS => ?_)
                                obtain ⟨hq_119a, hq_119b⟩ := hq_119
                                rw [hq_119a]
                                refine lv_if_le (tgt := 248) hx hb dL_isRead_224 (by decide) (fun c_121 => ?_) (fun c_121 => ?_)
                                · exact absurd c_121 (nI_nle (by omega) (by omega))
                                · refine lv_aload_n hx hb dL_isRead_227 rfl (lv_at hl 10 rfl) ?_
                                  refine lv_bipush (v := (nI 48)) hx hb dL_isRead_228 (by decide) ?_
                                  refine lv_iload hx hb dL_isRead_230 (lv_at hl 1 rfl) ?_
                                  refine lv_iadd hx hb dL_isRead_232 ?_
                                  rw [show (nI 48) + (nI (zd_e vx vy k65 0)) = (nI (48 + zd_e vx vy k65 0)) from nI_add 48 _]
                                  refine lv_i2l (v := ((nI (48 + zd_e vx vy k65 0))).toInt64) hx hb dL_isRead_233 rfl ?_
                                  have hpc2 : zp bp M_118 := zp_fr (zp_pd (M' := z154) r2 (fun x y1 y2 y3 y4 => s1 x (by omega) (by omega) y1 y2) (by omega) s4) (fun x y1 y2 => hq_119b.2.2.2 x (by omega) (by omega))
                                  refine xc_i (xr_V (As := [.long ((nI (48 + zd_e vx vy k65 0))).toInt64]) (rest := []) (κ := 16) ⟨hx, hb, hml, hown, hts⟩ (cz_put l O M_118 bp tp hpc2 (c0 := ((nI (48 + zd_e vx vy k65 0))).toInt64) (q := 0) (by omega) (by rw [hq_119b.2.2.2 _ (by omega) (by omega)]; exact s4) (zc_cs (zd_e6 vx vy k65 0)).1) (cwV 1 hts gL_isRead_X6_put rfl rfl rfl (by decide +kernel) ⟨Nat.le_of_ble_eq_true rfl, Nat.le_of_ble_eq_true rfl⟩) hK hst hnw hS hW tp (by decide) rfl rfl rfl hl.1 rfl (Nat.le_of_ble_eq_true rfl) dL_isRead_234 ⟨Nat.zero_le _, Nat.zero_le _⟩) hS (fun r_124 M_122 H locs hq_123 hW hS => ?_)
                                  obtain ⟨hq_123a, hq_123b⟩ := hq_123
                                  rw [hq_123a]
                                  refine lv_iload hx hb dL_isRead_237 (lv_at hl 2 rfl) ?_
                                  refine lv_iconst (v := (nI 1)) hx hb dL_isRead_239 (by decide) ?_
                                  refine lv_iadd hx hb dL_isRead_240 ?_
                                  rw [show (nI 0) + (nI 1) = (nI (0 + 1)) from nI_add _ 1]
                                  refine lv_icmp_ne (tgt := 248) hx hb dL_isRead_241 (by decide) (fun c_125 => ?_) (fun c_125 => ?_)
                                  · exact absurd c_125 (fun z => z rfl)
                                  · refine lv_iconst (v := (nI 1)) hx hb dL_isRead_244 (by decide) ?_
                                    refine lv_goto (tgt := 249) hx hb dL_isRead_245 (by decide) ?_
                                    refine lv_istore (lv' := [(4, .int (nI 1)), (10, .int (nI (zd_e vx vy k65 0))), (12, .int (nI (zd_e vx vy k65 0))), (11, .int (nI 0)), (8, .int (zd_z vx vy (nI k65))), (9, .int (nI (zd_m vx vy k65))), (7, .int (nI k65)), (5, .int (nI nn)), (6, .int (nI n)), (0, .ref b), (1, .ref bp), (2, .int vx), (3, .int vy)]) hx hb dL_isRead_249 hl (by decide) rfl (fun ls hl => ?_)
                                    refine lv_iinc (v := (nI (0 + 1))) (lv' := [(11, .int (nI (0 + 1))), (4, .int (nI 1)), (10, .int (nI (zd_e vx vy k65 0))), (12, .int (nI (zd_e vx vy k65 0))), (8, .int (zd_z vx vy (nI k65))), (9, .int (nI (zd_m vx vy k65))), (7, .int (nI k65)), (5, .int (nI nn)), (6, .int (nI n)), (0, .ref b), (1, .ref bp), (2, .int vx), (3, .int vy)]) hx hb dL_isRead_251 hl (k := 3) rfl ((nI_1 0)) (by decide) rfl (fun ls hl => ?_)
                                    refine lv_goto (tgt := 154) hx hb dL_isRead_254 (by decide) ?_
                                    exact ih154 M_122 _ _ _ ⟨hW, hS, lv_sub hl [0, 2, 4, 5, 6, 1, 7, 8, 9, 10, 11, 12] rfl, (zR2_1 hbc hE154 hk154 (zc_cs (zd_e6 vx vy k65 0)).2 hq_119b hq_123b)⟩
                            · exact absurd (show (-1 : Int32) < 0 by decide) c_116
                        · refine lv_iload hx hb dL_isRead_161 (lv_at hl 2 rfl) ?_
                          refine lv_iload hx hb dL_isRead_163 (lv_at hl 0 rfl) ?_
                          refine lv_ishr hx hb dL_isRead_165 ?_
                          refine lv_iload hx hb dL_isRead_166 (lv_at hl 1 rfl) ?_
                          refine lv_if_ge (tgt := 176) hx hb dL_isRead_168 (by decide) (fun c_126 => ?_) (fun c_126 => ?_)
                          · refine lv_iconst (v := (nI 5)) hx hb dL_isRead_176 (by decide) ?_
                            refine xc_i (xr_S (As := [.int ((zd_z vx vy (nI k65)) >>> ((nI (i + 1)) &&& 31)), .int (nI 5)]) (rest := []) ⟨hx, hb, hml, hown, hts⟩ (c_L_up l O z154 ((zd_z vx vy (nI k65)) >>> ((nI (i + 1)) &&& 31)) (n := 5) (by omega) (by omega)) (va_cwS 2 hts gL_isRead_L_up rfl rfl rfl (by decide +kernel) ⟨Nat.le_of_ble_eq_true rfl, Nat.le_of_ble_eq_true rfl⟩) hK hst hnw hS hW rfl hl.1 rfl (Nat.le_of_ble_eq_true rfl) dL_isRead_177 ⟨Nat.zero_le _, Nat.zero_le _⟩) hS (fun r_129 M_127 H locs hq_128 hW hS => ?_)
                            obtain ⟨hq_128a, hq_128b⟩ := hq_128
                            rw [hq_128b] at hW
                            rw [hq_128a]
                            refine lv_istore (lv' := [(12, .int (nI (zu_u ((zd_z vx vy (nI k65)) >>> ((nI (i + 1)) &&& 31)) 5))), (11, .int (nI (i + 1))), (10, .int (zd_l vx vy k65 (i + 1))), (8, .int (zd_z vx vy (nI k65))), (9, .int (nI (zd_m vx vy k65))), (7, .int (nI k65)), (4, .int (nI 1)), (5, .int (nI nn)), (6, .int (nI n)), (0, .ref b), (1, .ref bp), (2, .int vx), (3, .int vy)]) hx hb dL_isRead_180 hl (by decide) rfl (fun ls hl => ?_)
                            refine lv_iload hx hb dL_isRead_182 (lv_at hl 2 rfl) ?_
                            refine lv_if_lt (tgt := 201) hx hb dL_isRead_184 (by decide) (fun c_130 => ?_) (fun c_130 => ?_)
                            · exact absurd c_130 (nI_pos (by have := zd_e6 vx vy k65 i; omega))
                            · refine lv_iload hx hb dL_isRead_187 (lv_at hl 0 rfl) ?_
                              refine lv_iload hx hb dL_isRead_189 (lv_at hl 2 rfl) ?_
                              refine lv_icmp_lt (tgt := 201) hx hb dL_isRead_191 (by decide) (fun c_131 => ?_) (fun c_131 => ?_)
                              · have hlt : ¬ zd_e vx vy k65 i ≤ (zu_u ((zd_z vx vy (nI k65)) >>> ((nI (i + 1)) &&& 31)) 5) := Nat.not_le.mpr ((nI_ltI (by have := zu_lt (v := (zd_z vx vy (nI k65)) >>> ((nI (i + 1)) &&& 31)) (n := 5) (by omega); omega) (by have := zd_e6 vx vy k65 i; omega)).mp c_131)
                                refine lv_iload hx hb dL_isRead_201 (lv_at hl 0 rfl) ?_
                                rw [show (nI (zu_u ((zd_z vx vy (nI k65)) >>> ((nI (i + 1)) &&& 31)) 5)) = nI (zd_e vx vy k65 (i + 1)) from by show _ = nI (if _ then _ else _); rw [if_neg hlt]]
                                refine lv_istore (lv' := [(12, .int (nI (zd_e vx vy k65 (i + 1)))), (11, .int (nI (i + 1))), (10, .int (zd_l vx vy k65 (i + 1))), (8, .int (zd_z vx vy (nI k65))), (9, .int (nI (zd_m vx vy k65))), (7, .int (nI k65)), (4, .int (nI 1)), (5, .int (nI nn)), (6, .int (nI n)), (0, .ref b), (1, .ref bp), (2, .int vx), (3, .int vy)]) hx hb dL_isRead_203 hl (by decide) rfl (fun ls hl => ?_)
                                refine lv_iload hx hb dL_isRead_205 (lv_at hl 0 rfl) ?_
                                refine lv_istore (lv' := [(10, .int (nI (zd_e vx vy k65 (i + 1)))), (12, .int (nI (zd_e vx vy k65 (i + 1)))), (11, .int (nI (i + 1))), (8, .int (zd_z vx vy (nI k65))), (9, .int (nI (zd_m vx vy k65))), (7, .int (nI k65)), (4, .int (nI 1)), (5, .int (nI nn)), (6, .int (nI n)), (0, .ref b), (1, .ref bp), (2, .int vx), (3, .int vy)]) hx hb dL_isRead_207 hl (by decide) rfl (fun ls hl => ?_)
                                refine lv_iload hx hb dL_isRead_209 (lv_at hl 6 rfl) ?_
                                refine lv_if_eq (tgt := 248) hx hb dL_isRead_211 (by decide) (fun c_132 => ?_) (fun c_132 => ?_)
                                · exact absurd c_132 (by decide)
                                · refine lv_aload_n hx hb dL_isRead_214 rfl (lv_at hl 9 rfl) ?_
                                  refine lv_bipush (v := (nI 48)) hx hb dL_isRead_215 (by decide) ?_
                                  refine lv_iload hx hb dL_isRead_217 (lv_at hl 1 rfl) ?_
                                  refine lv_iadd hx hb dL_isRead_219 ?_
                                  rw [show (nI 48) + (nI (zd_e vx vy k65 (i + 1))) = (nI (48 + zd_e vx vy k65 (i + 1))) from nI_add 48 _]
                                  refine lv_i2l (v := ((nI (48 + zd_e vx vy k65 (i + 1)))).toInt64) hx hb dL_isRead_220 rfl ?_
                                  have hpb2 : zp b z154 := zp_pd r1 (fun x y1 y2 y3 y4 => s1 x y1 y2 (by omega) (by omega)) (by omega) s2
                                  refine xc_i (xr_V (As := [.long ((nI (48 + zd_e vx vy k65 (i + 1)))).toInt64]) (rest := []) (κ := 16) ⟨hx, hb, hml, hown, hts⟩ (cz_put l O z154 b tb hpb2 (c0 := ((nI (48 + zd_e vx vy k65 (i + 1)))).toInt64) (q := zt_s (zd_m vx vy) k65 + (i + 1)) (by omega) s2 (zc_cs (zd_e6 vx vy k65 (i + 1))).1) (cwV 1 hts gL_isRead_X6_put rfl rfl rfl (by decide +kernel) ⟨Nat.le_of_ble_eq_true rfl, Nat.le_of_ble_eq_true rfl⟩) hK hst hnw hS hW tb (by decide) rfl rfl rfl hl.1 rfl (Nat.le_of_ble_eq_true rfl) dL_isRead_221 ⟨Nat.zero_le _, Nat.zero_le _⟩) hS (fun r_135 M_133 H locs hq_134 hW hS => ?_)
                                  obtain ⟨hq_134a, hq_134b⟩ := hq_134
                                  rw [hq_134a]
                                  refine lv_if_le (tgt := 248) hx hb dL_isRead_224 (by decide) (fun c_136 => ?_) (fun c_136 => ?_)
                                  · exact absurd c_136 (nI_nle (by omega) (by omega))
                                  · refine lv_aload_n hx hb dL_isRead_227 rfl (lv_at hl 10 rfl) ?_
                                    refine lv_bipush (v := (nI 48)) hx hb dL_isRead_228 (by decide) ?_
                                    refine lv_iload hx hb dL_isRead_230 (lv_at hl 1 rfl) ?_
                                    refine lv_iadd hx hb dL_isRead_232 ?_
                                    rw [show (nI 48) + (nI (zd_e vx vy k65 (i + 1))) = (nI (48 + zd_e vx vy k65 (i + 1))) from nI_add 48 _]
                                    refine lv_i2l (v := ((nI (48 + zd_e vx vy k65 (i + 1)))).toInt64) hx hb dL_isRead_233 rfl ?_
                                    have hpc2 : zp bp M_133 := zp_fr (zp_pd (M' := z154) r2 (fun x y1 y2 y3 y4 => s1 x (by omega) (by omega) y1 y2) (by omega) s4) (fun x y1 y2 => hq_134b.2.2.2 x (by omega) (by omega))
                                    refine xc_i (xr_V (As := [.long ((nI (48 + zd_e vx vy k65 (i + 1)))).toInt64]) (rest := []) (κ := 16) ⟨hx, hb, hml, hown, hts⟩ (cz_put l O M_133 bp tp hpc2 (c0 := ((nI (48 + zd_e vx vy k65 (i + 1)))).toInt64) (q := (i + 1)) (by omega) (by rw [hq_134b.2.2.2 _ (by omega) (by omega)]; exact s4) (zc_cs (zd_e6 vx vy k65 (i + 1))).1) (cwV 1 hts gL_isRead_X6_put rfl rfl rfl (by decide +kernel) ⟨Nat.le_of_ble_eq_true rfl, Nat.le_of_ble_eq_true rfl⟩) hK hst hnw hS hW tp (by decide) rfl rfl rfl hl.1 rfl (Nat.le_of_ble_eq_true rfl) dL_isRead_234 ⟨Nat.zero_le _, Nat.zero_le _⟩) hS (fun r_139 M_137 H locs hq_138 hW hS => ?_)
                                    obtain ⟨hq_138a, hq_138b⟩ := hq_138
                                    rw [hq_138a]
                                    refine lv_iload hx hb dL_isRead_237 (lv_at hl 2 rfl) ?_
                                    refine lv_iconst (v := (nI 1)) hx hb dL_isRead_239 (by decide) ?_
                                    refine lv_iadd hx hb dL_isRead_240 ?_
                                    rw [show (nI (i + 1)) + (nI 1) = (nI ((i + 1) + 1)) from nI_add _ 1]
                                    refine lv_icmp_ne (tgt := 248) hx hb dL_isRead_241 (by decide) (fun c_140 => ?_) (fun c_140 => ?_)
                                    · exact absurd c_140 (fun z => z rfl)
                                    · refine lv_iconst (v := (nI 1)) hx hb dL_isRead_244 (by decide) ?_
                                      refine lv_goto (tgt := 249) hx hb dL_isRead_245 (by decide) ?_
                                      refine lv_istore (lv' := [(4, .int (nI 1)), (10, .int (nI (zd_e vx vy k65 (i + 1)))), (12, .int (nI (zd_e vx vy k65 (i + 1)))), (11, .int (nI (i + 1))), (8, .int (zd_z vx vy (nI k65))), (9, .int (nI (zd_m vx vy k65))), (7, .int (nI k65)), (5, .int (nI nn)), (6, .int (nI n)), (0, .ref b), (1, .ref bp), (2, .int vx), (3, .int vy)]) hx hb dL_isRead_249 hl (by decide) rfl (fun ls hl => ?_)
                                      refine lv_iinc (v := (nI ((i + 1) + 1))) (lv' := [(11, .int (nI ((i + 1) + 1))), (4, .int (nI 1)), (10, .int (nI (zd_e vx vy k65 (i + 1)))), (12, .int (nI (zd_e vx vy k65 (i + 1)))), (8, .int (zd_z vx vy (nI k65))), (9, .int (nI (zd_m vx vy k65))), (7, .int (nI k65)), (5, .int (nI nn)), (6, .int (nI n)), (0, .ref b), (1, .ref bp), (2, .int vx), (3, .int vy)]) hx hb dL_isRead_251 hl (k := 3) rfl ((nI_1 (i + 1))) (by decide) rfl (fun ls hl => ?_)
                                      refine lv_goto (tgt := 154) hx hb dL_isRead_254 (by decide) ?_
                                      exact ih154 M_137 _ _ _ ⟨hW, hS, lv_sub hl [0, 2, 4, 5, 6, 1, 7, 8, 9, 10, 11, 12] rfl, (zR2_1 hbc hE154 hk154 (zc_cs (zd_e6 vx vy k65 (i + 1))).2 hq_134b hq_138b)⟩
                              · have hlt : zd_e vx vy k65 i ≤ (zu_u ((zd_z vx vy (nI k65)) >>> ((nI (i + 1)) &&& 31)) 5) := by rcases Nat.lt_or_ge (zu_u ((zd_z vx vy (nI k65)) >>> ((nI (i + 1)) &&& 31)) 5) (zd_e vx vy k65 i) with q | q; exact absurd (nI_lt q (by have := zd_e6 vx vy k65 i; omega)) c_131; exact q
                                refine lv_iload hx hb dL_isRead_194 (lv_at hl 0 rfl) ?_
                                refine lv_iconst (v := (nI 1)) hx hb dL_isRead_196 (by decide) ?_
                                refine lv_iadd hx hb dL_isRead_197 ?_
                                refine lv_goto (tgt := 203) hx hb dL_isRead_198 (by decide) ?_
                                rw [show ((nI (zu_u ((zd_z vx vy (nI k65)) >>> ((nI (i + 1)) &&& 31)) 5)) + (nI 1)) = nI (zd_e vx vy k65 (i + 1)) from by show _ = nI (if _ then _ else _); rw [if_pos hlt]; exact nI_add _ 1]
                                refine lv_istore (lv' := [(12, .int (nI (zd_e vx vy k65 (i + 1)))), (11, .int (nI (i + 1))), (10, .int (zd_l vx vy k65 (i + 1))), (8, .int (zd_z vx vy (nI k65))), (9, .int (nI (zd_m vx vy k65))), (7, .int (nI k65)), (4, .int (nI 1)), (5, .int (nI nn)), (6, .int (nI n)), (0, .ref b), (1, .ref bp), (2, .int vx), (3, .int vy)]) hx hb dL_isRead_203 hl (by decide) rfl (fun ls hl => ?_)
                                refine lv_iload hx hb dL_isRead_205 (lv_at hl 0 rfl) ?_
                                refine lv_istore (lv' := [(10, .int (nI (zd_e vx vy k65 (i + 1)))), (12, .int (nI (zd_e vx vy k65 (i + 1)))), (11, .int (nI (i + 1))), (8, .int (zd_z vx vy (nI k65))), (9, .int (nI (zd_m vx vy k65))), (7, .int (nI k65)), (4, .int (nI 1)), (5, .int (nI nn)), (6, .int (nI n)), (0, .ref b), (1, .ref bp), (2, .int vx), (3, .int vy)]) hx hb dL_isRead_207 hl (by decide) rfl (fun ls hl => ?_)
                                refine lv_iload hx hb dL_isRead_209 (lv_at hl 6 rfl) ?_
                                refine lv_if_eq (tgt := 248) hx hb dL_isRead_211 (by decide) (fun c_141 => ?_) (fun c_141 => ?_)
                                · exact absurd c_141 (by decide)
                                · refine lv_aload_n hx hb dL_isRead_214 rfl (lv_at hl 9 rfl) ?_
                                  refine lv_bipush (v := (nI 48)) hx hb dL_isRead_215 (by decide) ?_
                                  refine lv_iload hx hb dL_isRead_217 (lv_at hl 1 rfl) ?_
                                  refine lv_iadd hx hb dL_isRead_219 ?_
                                  rw [show (nI 48) + (nI (zd_e vx vy k65 (i + 1))) = (nI (48 + zd_e vx vy k65 (i + 1))) from nI_add 48 _]
                                  refine lv_i2l (v := ((nI (48 + zd_e vx vy k65 (i + 1)))).toInt64) hx hb dL_isRead_220 rfl ?_
                                  have hpb2 : zp b z154 := zp_pd r1 (fun x y1 y2 y3 y4 => s1 x y1 y2 (by omega) (by omega)) (by omega) s2
                                  refine xc_i (xr_V (As := [.long ((nI (48 + zd_e vx vy k65 (i + 1)))).toInt64]) (rest := []) (κ := 16) ⟨hx, hb, hml, hown, hts⟩ (cz_put l O z154 b tb hpb2 (c0 := ((nI (48 + zd_e vx vy k65 (i + 1)))).toInt64) (q := zt_s (zd_m vx vy) k65 + (i + 1)) (by omega) s2 (zc_cs (zd_e6 vx vy k65 (i + 1))).1) (cwV 1 hts gL_isRead_X6_put rfl rfl rfl (by decide +kernel) ⟨Nat.le_of_ble_eq_true rfl, Nat.le_of_ble_eq_true rfl⟩) hK hst hnw hS hW tb (by decide) rfl rfl rfl hl.1 rfl (Nat.le_of_ble_eq_true rfl) dL_isRead_221 ⟨Nat.zero_le _, Nat.zero_le _⟩) hS (fun r_144 M_142 H locs hq_143 hW hS => ?_)
                                  obtain ⟨hq_143a, hq_143b⟩ := hq_143
                                  rw [hq_143a]
                                  refine lv_if_le (tgt := 248) hx hb dL_isRead_224 (by decide) (fun c_145 => ?_) (fun c_145 => ?_)
                                  · exact absurd c_145 (nI_nle (by omega) (by omega))
                                  · refine lv_aload_n hx hb dL_isRead_227 rfl (lv_at hl 10 rfl) ?_
                                    refine lv_bipush (v := (nI 48)) hx hb dL_isRead_228 (by decide) ?_
                                    refine lv_iload hx hb dL_isRead_230 (lv_at hl 1 rfl) ?_
                                    refine lv_iadd hx hb dL_isRead_232 ?_
                                    rw [show (nI 48) + (nI (zd_e vx vy k65 (i + 1))) = (nI (48 + zd_e vx vy k65 (i + 1))) from nI_add 48 _]
                                    refine lv_i2l (v := ((nI (48 + zd_e vx vy k65 (i + 1)))).toInt64) hx hb dL_isRead_233 rfl ?_
                                    have hpc2 : zp bp M_142 := zp_fr (zp_pd (M' := z154) r2 (fun x y1 y2 y3 y4 => s1 x (by omega) (by omega) y1 y2) (by omega) s4) (fun x y1 y2 => hq_143b.2.2.2 x (by omega) (by omega))
                                    refine xc_i (xr_V (As := [.long ((nI (48 + zd_e vx vy k65 (i + 1)))).toInt64]) (rest := []) (κ := 16) ⟨hx, hb, hml, hown, hts⟩ (cz_put l O M_142 bp tp hpc2 (c0 := ((nI (48 + zd_e vx vy k65 (i + 1)))).toInt64) (q := (i + 1)) (by omega) (by rw [hq_143b.2.2.2 _ (by omega) (by omega)]; exact s4) (zc_cs (zd_e6 vx vy k65 (i + 1))).1) (cwV 1 hts gL_isRead_X6_put rfl rfl rfl (by decide +kernel) ⟨Nat.le_of_ble_eq_true rfl, Nat.le_of_ble_eq_true rfl⟩) hK hst hnw hS hW tp (by decide) rfl rfl rfl hl.1 rfl (Nat.le_of_ble_eq_true rfl) dL_isRead_234 ⟨Nat.zero_le _, Nat.zero_le _⟩) hS (fun r_148 M_146 H locs hq_147 hW hS => ?_)
                                    obtain ⟨hq_147a, hq_147b⟩ := hq_147
                                    rw [hq_147a]
                                    refine lv_iload hx hb dL_isRead_237 (lv_at hl 2 rfl) ?_
                                    refine lv_iconst (v := (nI 1)) hx hb dL_isRead_239 (by decide) ?_
                                    refine lv_iadd hx hb dL_isRead_240 ?_
                                    rw [show (nI (i + 1)) + (nI 1) = (nI ((i + 1) + 1)) from nI_add _ 1]
                                    refine lv_icmp_ne (tgt := 248) hx hb dL_isRead_241 (by decide) (fun c_149 => ?_) (fun c_149 => ?_)
                                    · exact absurd c_149 (fun z => z rfl)
                                    · refine lv_iconst (v := (nI 1)) hx hb dL_isRead_244 (by decide) ?_
                                      refine lv_goto (tgt := 249) hx hb dL_isRead_245 (by decide) ?_
                                      refine lv_istore (lv' := [(4, .int (nI 1)), (10, .int (nI (zd_e vx vy k65 (i + 1)))), (12, .int (nI (zd_e vx vy k65 (i + 1)))), (11, .int (nI (i + 1))), (8, .int (zd_z vx vy (nI k65))), (9, .int (nI (zd_m vx vy k65))), (7, .int (nI k65)), (5, .int (nI nn)), (6, .int (nI n)), (0, .ref b), (1, .ref bp), (2, .int vx), (3, .int vy)]) hx hb dL_isRead_249 hl (by decide) rfl (fun ls hl => ?_)
                                      refine lv_iinc (v := (nI ((i + 1) + 1))) (lv' := [(11, .int (nI ((i + 1) + 1))), (4, .int (nI 1)), (10, .int (nI (zd_e vx vy k65 (i + 1)))), (12, .int (nI (zd_e vx vy k65 (i + 1)))), (8, .int (zd_z vx vy (nI k65))), (9, .int (nI (zd_m vx vy k65))), (7, .int (nI k65)), (5, .int (nI nn)), (6, .int (nI n)), (0, .ref b), (1, .ref bp), (2, .int vx), (3, .int vy)]) hx hb dL_isRead_251 hl (k := 3) rfl ((nI_1 (i + 1))) (by decide) rfl (fun ls hl => ?_)
                                      refine lv_goto (tgt := 154) hx hb dL_isRead_254 (by decide) ?_
                                      exact ih154 M_146 _ _ _ ⟨hW, hS, lv_sub hl [0, 2, 4, 5, 6, 1, 7, 8, 9, 10, 11, 12] rfl, (zR2_1 hbc hE154 hk154 (zc_cs (zd_e6 vx vy k65 (i + 1))).2 hq_143b hq_147b)⟩
                          · exact absurd (nI_pos' (by have := zd_e6 vx vy k65 i; omega)) c_126
          · have hh5 : zu_u ((zd_z vx vy (nI k65)) >>> ((nI 9) &&& 31)) 5 = 0 := zI_inj (by have := zu_lt (v := (zd_z vx vy (nI k65)) >>> ((nI 9) &&& 31)) (n := 5) (by omega); omega) (by omega) c_26
            refine lv_bipush (v := (nI 8)) hx hb dL_isRead_102 (by decide) ?_
            refine lv_goto (tgt := 108) hx hb dL_isRead_104 (by decide) ?_
            refine xc_i (xr_S (As := [.int (zd_z vx vy (nI k65)), .int (nI 8)]) (rest := [.int (nI 1)]) ⟨hx, hb, hml, hown, hts⟩ (c_L_up l O z65 (zd_z vx vy (nI k65)) (n := 8) (by omega) (by omega)) (va_cwS 2 hts gL_isRead_L_up rfl rfl rfl (by decide +kernel) ⟨Nat.le_of_ble_eq_true rfl, Nat.le_of_ble_eq_true rfl⟩) hK hst hnw hS hW rfl hl.1 rfl (Nat.le_of_ble_eq_true rfl) dL_isRead_108 ⟨Nat.zero_le _, Nat.zero_le _⟩) hS (fun r_152 M_150 H locs hq_151 hW hS => ?_)
            obtain ⟨hq_151a, hq_151b⟩ := hq_151
            rw [hq_151b] at hW
            rw [hq_151a]
            refine lv_iadd hx hb dL_isRead_111 ?_
            rw [show nI 1 + nI (zu_u (zd_z vx vy (nI k65)) 8) = nI (zd_m vx vy k65) from by unfold zd_m; rw [if_pos hh5]; exact nI_add 1 _]
            refine lv_istore (lv' := [(9, .int (nI (zd_m vx vy k65))), (8, .int (zd_z vx vy (nI k65))), (7, .int (nI k65)), (4, .int (nI 1)), (5, .int (nI nn)), (6, .int (nI n)), (0, .ref b), (1, .ref bp), (2, .int vx), (3, .int vy)]) hx hb dL_isRead_112 hl (by decide) rfl (fun ls hl => ?_)
            refine lv_iconst (v := (-1)) hx hb dL_isRead_114 (by decide) ?_
            refine lv_istore (lv' := [(10, .int (-1)), (9, .int (nI (zd_m vx vy k65))), (8, .int (zd_z vx vy (nI k65))), (7, .int (nI k65)), (4, .int (nI 1)), (5, .int (nI nn)), (6, .int (nI n)), (0, .ref b), (1, .ref bp), (2, .int vx), (3, .int vy)]) hx hb dL_isRead_115 hl (by decide) rfl (fun ls hl => ?_)
            refine lv_iload hx hb dL_isRead_117 (lv_at hl 4 rfl) ?_
            refine lv_if_eq (tgt := 148) hx hb dL_isRead_119 (by decide) (fun c_153 => ?_) (fun c_153 => ?_)
            · exact absurd c_153 (by decide)
            · refine lv_iload hx hb dL_isRead_122 (lv_at hl 3 rfl) ?_
              refine lv_if_eq (tgt := 137) hx hb dL_isRead_124 (by decide) (fun c_154 => ?_) (fun c_154 => ?_)
              · have hk0 : k65 = 0 := zI_inj (by omega) (by omega) c_154
                refine lv_aload_n hx hb dL_isRead_137 rfl (lv_at hl 8 rfl) ?_
                have hpc1 : zp bp z65 := r2
                obtain ⟨-, -, LC, hLC, hLCM⟩ := id hpc1
                refine xc_i (xr_V (As := []) (rest := []) (κ := 16) ⟨hx, hb, hml, hown, hts⟩ (cz_wipe l O z65 bp tp hpc1) (cwV 0 hts gL_isRead_X6_wipe rfl rfl rfl (by decide +kernel) ⟨Nat.le_of_ble_eq_true rfl, Nat.le_of_ble_eq_true rfl⟩) hK hst hnw hS hW tp (by decide) rfl rfl rfl hl.1 rfl (Nat.le_of_ble_eq_true rfl) dL_isRead_138 ⟨Nat.zero_le _, Nat.zero_le _⟩) hS (fun r_157 M_155 H locs hq_156 hW hS => ?_)
                obtain ⟨hq_156a, hq_156b⟩ := hq_156
                rw [hq_156a, hLCM]
                have hJ0 : zR2 b bp (zd_m vx vy) (zd_e vx vy) k65 0 z65 M_155 := by rw [hq_156b]; exact zR2_0 hbc hE65 hk0
                refine lv_if_lt (tgt := 148) hx hb dL_isRead_141 (by decide) (fun c_158 => ?_) (fun c_158 => ?_)
                · exact absurd c_158 (nI_pos (by omega))
                · refine lv_iconst (v := (nI 1)) hx hb dL_isRead_144 (by decide) ?_
                  refine lv_goto (tgt := 149) hx hb dL_isRead_145 (by decide) ?_
                  refine lv_istore (lv' := [(4, .int (nI 1)), (10, .int (-1)), (9, .int (nI (zd_m vx vy k65))), (8, .int (zd_z vx vy (nI k65))), (7, .int (nI k65)), (5, .int (nI nn)), (6, .int (nI n)), (0, .ref b), (1, .ref bp), (2, .int vx), (3, .int vy)]) hx hb dL_isRead_149 hl (by decide) rfl (fun ls hl => ?_)
                  refine lv_iconst (v := (nI 0)) hx hb dL_isRead_151 (by decide) ?_
                  refine lv_istore (lv' := [(11, .int (nI 0)), (4, .int (nI 1)), (10, .int (-1)), (9, .int (nI (zd_m vx vy k65))), (8, .int (zd_z vx vy (nI k65))), (7, .int (nI k65)), (5, .int (nI nn)), (6, .int (nI n)), (0, .ref b), (1, .ref bp), (2, .int vx), (3, .int vy)]) hx hb dL_isRead_152 hl (by decide) rfl (fun ls hl => ?_)
                  refine xl_up (σ := xm_T) (zd_m vx vy k65) (fun kk zz H locs ls => xw_D G g τ zz H ∧ va_S A s.heap H locs ∧ lv_has ls 13 [(11, .int (nI kk)), (10, .int (zd_l vx vy k65 kk)), (8, .int (zd_z vx vy (nI k65))), (9, .int (nI (zd_m vx vy k65))), (7, .int (nI k65)), (4, .int (nI 1)), (5, .int (nI nn)), (6, .int (nI n)), (0, .ref b), (1, .ref bp), (2, .int vx), (3, .int vy)] ∧ zR2 b bp (zd_m vx vy) (zd_e vx vy) k65 kk z65 zz) (fun z154 H locs ls hI => ?_) (fun k154 z154 H locs ls hk154 hI ih154 => ?_) (k0 := 0) (z0 := M_155) (Nat.zero_le _) ⟨hW, hS, lv_sub hl [0, 2, 4, 3, 5, 1, 6, 7, 8, 9, 10, 11] rfl, hJ0⟩
                  · obtain ⟨hW, hS, hl, hE154⟩ := hI
                    refine lv_iload hx hb dL_isRead_154 (lv_at hl 0 rfl) ?_
                    refine lv_iload hx hb dL_isRead_156 (lv_at hl 3 rfl) ?_
                    refine lv_icmp_ge (tgt := 257) hx hb dL_isRead_158 (by decide) (fun c_159 => ?_) (fun c_159 => ?_)
                    · refine lv_iload hx hb dL_isRead_257 (lv_at hl 5 rfl) ?_
                      refine lv_if_eq (tgt := 308) hx hb dL_isRead_259 (by decide) (fun c_160 => ?_) (fun c_160 => ?_)
                      · exact absurd c_160 (by decide)
                      · refine lv_aload_n hx hb dL_isRead_262 rfl (lv_at hl 9 rfl) ?_
                        obtain ⟨s1, s2, s3, s4, s5⟩ := id hE154
                        have hzal := zi_al hz k65 (zd_v vx vy k65) (by omega)
                        have hzc := zi_g (zi_g hzal r4) (zg_of (a := bp + 1) (M' := z154) (fun x y1 y2 => s1 x (by omega) (by omega) (by omega) (by omega)))
                        have hpc3 : zp bp z154 := zp_pd r2 (fun x y1 y2 y3 y4 => s1 x (by omega) (by omega) y1 y2) (by omega) s4
                        have hv1 : zt_v 1 (fun _ => zd_m vx vy k65) (fun _ => zd_e vx vy k65) := fun k _ => ⟨hm9.1, hm9.2, fun j _ => zd_e6 vx vy k65 j, fun j _ => zd_en vx vy k65 j⟩
                        refine xc_i (xr_V (As := []) (rest := []) (κ := 16) ⟨hx, hb, hml, hown, hts⟩ (cz_read l O z154 bp tp hpc3 hzc (NN := 1) (L := zd_m vx vy k65) (em := fun _ => zd_m vx vy k65) (ee := fun _ => zd_e vx vy k65) (by omega) s4 s5 hv1 (by show _ = 0 + zd_m vx vy k65 + 1; omega) (by omega)) (cwV 0 hts gL_isRead_X6_read rfl rfl rfl (by decide +kernel) ⟨Nat.le_of_ble_eq_true rfl, Nat.le_of_ble_eq_true rfl⟩) hK hst hnw hS hW tp (by decide) rfl rfl rfl hl.1 rfl (Nat.le_of_ble_eq_true rfl) dL_isRead_263 ⟨Nat.zero_le _, Nat.zero_le _⟩) hS (fun r_163 M_161 H locs hq_162 hW hS => ?_)
                        obtain ⟨hq_162a, hq_162b, hq_162c⟩ := hq_162
                        rw [hq_162a]
                        have hzw := zad_w hzc (m := zd_m vx vy k65) (e := fun j => nI (zd_e vx vy k65 j)) (by omega) (by omega) ⟨_, zd_e6 vx vy k65 0, rfl⟩
                        have hz3 : zi (bp + 1) M_161 (nn + k65 + 1) TT TT (20 + 14256 * NN) := zi_g (zi_al hzc 1 hv1 (by omega)) (zq_n hq_162b)
                        have hR1 : zR b bp M (zd_m vx vy) (zd_e vx vy) (k65 + 1) M_161 := zR_1 hbc hE65 hE154 (by omega) hq_162b
                        refine lv_iload hx hb dL_isRead_266 (lv_at hl 6 rfl) ?_
                        refine lv_iload hx hb dL_isRead_268 (lv_at hl 4 rfl) ?_
                        refine lv_iadd hx hb dL_isRead_270 ?_
                        rw [show (nI nn) + (nI k65) = (nI (nn + k65)) from nI_add nn k65]
                        refine lv_iconst (v := (nI 1)) hx hb dL_isRead_271 (by decide) ?_
                        refine lv_iadd hx hb dL_isRead_272 ?_
                        rw [show (nI (nn + k65)) + (nI 1) = (nI (nn + k65 + 1)) from nI_add _ 1]
                        refine lv_icmp_ne (tgt := 308) hx hb dL_isRead_273 (by decide) (fun c_164 => ?_) (fun c_164 => ?_)
                        · exact absurd c_164 (fun z => z rfl)
                        · refine lv_aload_n hx hb dL_isRead_276 rfl (lv_at hl 9 rfl) ?_
                          refine lv_iload hx hb dL_isRead_277 (lv_at hl 6 rfl) ?_
                          refine lv_iload hx hb dL_isRead_279 (lv_at hl 4 rfl) ?_
                          refine lv_iadd hx hb dL_isRead_281 ?_
                          rw [show (nI nn) + (nI k65) = (nI (nn + k65)) from nI_add nn k65]
                          refine lv_iconst (v := (nI 5)) hx hb dL_isRead_282 (by decide) ?_
                          refine xc_i (xr_V (As := [.int (nI (nn + k65)), .int (nI 5)]) (rest := []) (κ := 16) ⟨hx, hb, hml, hown, hts⟩ (cz_person l O M_161 bp tp hz3 (k := (nn + k65)) (jj := 5) (by omega) (by omega)) (cwV 2 hts gL_isRead_X6_person rfl rfl rfl (by decide +kernel) ⟨Nat.le_of_ble_eq_true rfl, Nat.le_of_ble_eq_true rfl⟩) hK hst hnw hS hW tp (by decide) rfl rfl rfl hl.1 rfl (Nat.le_of_ble_eq_true rfl) dL_isRead_283 ⟨Nat.zero_le _, Nat.zero_le _⟩) hS (fun r_167 M_165 H locs hq_166 hW hS => ?_)
                          obtain ⟨hq_166a, hq_166b⟩ := hq_166
                          rw [hq_166b] at hW
                          rw [hq_166a]
                          rw [show (zf_pe (bp + 1) M_161 (nn + k65) 5) = (nI (zd_m vx vy k65)) from (by show M_161 (bp + 1 + 2 * (nn + k65) + 34) 2 = _; rw [hq_162b.2.2.1 _ (by omega) (by omega)]; exact hzw.1)]
                          refine lv_iload hx hb dL_isRead_286 (lv_at hl 3 rfl) ?_
                          refine lv_icmp_ne (tgt := 308) hx hb dL_isRead_288 (by decide) (fun c_168 => ?_) (fun c_168 => ?_)
                          · exact absurd c_168 (fun z => z rfl)
                          · refine lv_aload_n hx hb dL_isRead_291 rfl (lv_at hl 9 rfl) ?_
                            refine lv_iload hx hb dL_isRead_292 (lv_at hl 6 rfl) ?_
                            refine lv_iload hx hb dL_isRead_294 (lv_at hl 4 rfl) ?_
                            refine lv_iadd hx hb dL_isRead_296 ?_
                            rw [show (nI nn) + (nI k65) = (nI (nn + k65)) from nI_add nn k65]
                            refine lv_iconst (v := (nI 0)) hx hb dL_isRead_297 (by decide) ?_
                            refine xc_i (xr_V (As := [.int (nI (nn + k65)), .int (nI 0)]) (rest := []) (κ := 16) ⟨hx, hb, hml, hown, hts⟩ (cz_person l O M_161 bp tp hz3 (k := (nn + k65)) (jj := 0) (by omega) (by omega)) (cwV 2 hts gL_isRead_X6_person rfl rfl rfl (by decide +kernel) ⟨Nat.le_of_ble_eq_true rfl, Nat.le_of_ble_eq_true rfl⟩) hK hst hnw hS hW tp (by decide) rfl rfl rfl hl.1 rfl (Nat.le_of_ble_eq_true rfl) dL_isRead_298 ⟨Nat.zero_le _, Nat.zero_le _⟩) hS (fun r_171 M_169 H locs hq_170 hW hS => ?_)
                            obtain ⟨hq_170a, hq_170b⟩ := hq_170
                            rw [hq_170b] at hW
                            rw [hq_170a]
                            rw [show (zf_pe (bp + 1) M_161 (nn + k65) 0) = (nI 0) from (by show M_161 (bp + 1 + 2 * (nn + k65) + 34) 3 = _; rw [hq_162b.2.2.1 _ (by omega) (by omega)]; exact hzw.2)]
                            refine lv_if_ne (tgt := 308) hx hb dL_isRead_301 (by decide) (fun c_172 => ?_) (fun c_172 => ?_)
                            · exact absurd c_172 (fun z => z rfl)
                            · refine lv_iconst (v := (nI 1)) hx hb dL_isRead_304 (by decide) ?_
                              refine lv_goto (tgt := 309) hx hb dL_isRead_305 (by decide) ?_
                              refine lv_istore (lv' := [(4, .int (nI 1)), (11, .int (nI (zd_m vx vy k65))), (10, .int (zd_l vx vy k65 (zd_m vx vy k65))), (8, .int (zd_z vx vy (nI k65))), (9, .int (nI (zd_m vx vy k65))), (7, .int (nI k65)), (5, .int (nI nn)), (6, .int (nI n)), (0, .ref b), (1, .ref bp), (2, .int vx), (3, .int vy)]) hx hb dL_isRead_309 hl (by decide) rfl (fun ls hl => ?_)
                              refine lv_iinc (v := (nI (k65 + 1))) (lv' := [(7, .int (nI (k65 + 1))), (4, .int (nI 1)), (11, .int (nI (zd_m vx vy k65))), (10, .int (zd_l vx vy k65 (zd_m vx vy k65))), (8, .int (zd_z vx vy (nI k65))), (9, .int (nI (zd_m vx vy k65))), (5, .int (nI nn)), (6, .int (nI n)), (0, .ref b), (1, .ref bp), (2, .int vx), (3, .int vy)]) hx hb dL_isRead_311 hl (k := 5) rfl ((nI_1 k65)) (by decide) rfl (fun ls hl => ?_)
                              refine lv_goto (tgt := 65) hx hb dL_isRead_314 (by decide) ?_
                              exact ih65 M_161 _ _ _ ⟨hW, hS, lv_sub hl [0, 1, 6, 7, 8, 9, 10, 11] rfl, hR1⟩
                    · exact absurd (nI_le (Nat.le_refl _) (by omega)) c_159
                  · obtain ⟨hW, hS, hl, hE154⟩ := hI
                    obtain ⟨s1, s2, s3, s4, s5⟩ := id hE154
                    refine lv_iload hx hb dL_isRead_154 (lv_at hl 0 rfl) ?_
                    refine lv_iload hx hb dL_isRead_156 (lv_at hl 3 rfl) ?_
                    refine lv_icmp_ge (tgt := 257) hx hb dL_isRead_158 (by decide) (fun c_173 => ?_) (fun c_173 => ?_)
                    · exact absurd c_173 (nI_ge hk154 (by omega))
                    · obtain rfl | ⟨i, rfl⟩ : k154 = 0 ∨ ∃ i, k154 = i + 1 := by rcases Nat.eq_zero_or_pos k154 with q | q; exact Or.inl q; exact Or.inr ⟨k154 - 1, by omega⟩
                      · refine lv_iload hx hb dL_isRead_161 (lv_at hl 2 rfl) ?_
                        refine lv_iload hx hb dL_isRead_163 (lv_at hl 0 rfl) ?_
                        refine lv_ishr hx hb dL_isRead_165 ?_
                        refine lv_iload hx hb dL_isRead_166 (lv_at hl 1 rfl) ?_
                        refine lv_if_ge (tgt := 176) hx hb dL_isRead_168 (by decide) (fun c_174 => ?_) (fun c_174 => ?_)
                        · exact absurd c_174 (show ¬ (-1 : Int32) ≥ 0 by decide)
                        · refine lv_bipush (v := (nI 6)) hx hb dL_isRead_171 (by decide) ?_
                          refine lv_goto (tgt := 177) hx hb dL_isRead_173 (by decide) ?_
                          refine xc_i (xr_S (As := [.int ((zd_z vx vy (nI k65)) >>> ((nI 0) &&& 31)), .int (nI 6)]) (rest := []) ⟨hx, hb, hml, hown, hts⟩ (c_L_up l O z154 ((zd_z vx vy (nI k65)) >>> ((nI 0) &&& 31)) (n := 6) (by omega) (by omega)) (va_cwS 2 hts gL_isRead_L_up rfl rfl rfl (by decide +kernel) ⟨Nat.le_of_ble_eq_true rfl, Nat.le_of_ble_eq_true rfl⟩) hK hst hnw hS hW rfl hl.1 rfl (Nat.le_of_ble_eq_true rfl) dL_isRead_177 ⟨Nat.zero_le _, Nat.zero_le _⟩) hS (fun r_177 M_175 H locs hq_176 hW hS => ?_)
                          obtain ⟨hq_176a, hq_176b⟩ := hq_176
                          rw [hq_176b] at hW
                          rw [hq_176a]
                          refine lv_istore (lv' := [(12, .int (nI (zu_u ((zd_z vx vy (nI k65)) >>> ((nI 0) &&& 31)) 6))), (11, .int (nI 0)), (10, .int (zd_l vx vy k65 0)), (8, .int (zd_z vx vy (nI k65))), (9, .int (nI (zd_m vx vy k65))), (7, .int (nI k65)), (4, .int (nI 1)), (5, .int (nI nn)), (6, .int (nI n)), (0, .ref b), (1, .ref bp), (2, .int vx), (3, .int vy)]) hx hb dL_isRead_180 hl (by decide) rfl (fun ls hl => ?_)
                          refine lv_iload hx hb dL_isRead_182 (lv_at hl 2 rfl) ?_
                          refine lv_if_lt (tgt := 201) hx hb dL_isRead_184 (by decide) (fun c_178 => ?_) (fun c_178 => ?_)
                          · refine lv_iload hx hb dL_isRead_201 (lv_at hl 0 rfl) ?_
                            rw [show (nI (zu_u ((zd_z vx vy (nI k65)) >>> ((nI 0) &&& 31)) 6)) = nI (zd_e vx vy k65 0) from rfl]
                            refine lv_istore (lv' := [(12, .int (nI (zd_e vx vy k65 0))), (11, .int (nI 0)), (10, .int (zd_l vx vy k65 0)), (8, .int (zd_z vx vy (nI k65))), (9, .int (nI (zd_m vx vy k65))), (7, .int (nI k65)), (4, .int (nI 1)), (5, .int (nI nn)), (6, .int (nI n)), (0, .ref b), (1, .ref bp), (2, .int vx), (3, .int vy)]) hx hb dL_isRead_203 hl (by decide) rfl (fun ls hl => ?_)
                            refine lv_iload hx hb dL_isRead_205 (lv_at hl 0 rfl) ?_
                            refine lv_istore (lv' := [(10, .int (nI (zd_e vx vy k65 0))), (12, .int (nI (zd_e vx vy k65 0))), (11, .int (nI 0)), (8, .int (zd_z vx vy (nI k65))), (9, .int (nI (zd_m vx vy k65))), (7, .int (nI k65)), (4, .int (nI 1)), (5, .int (nI nn)), (6, .int (nI n)), (0, .ref b), (1, .ref bp), (2, .int vx), (3, .int vy)]) hx hb dL_isRead_207 hl (by decide) rfl (fun ls hl => ?_)
                            refine lv_iload hx hb dL_isRead_209 (lv_at hl 6 rfl) ?_
                            refine lv_if_eq (tgt := 248) hx hb dL_isRead_211 (by decide) (fun c_179 => ?_) (fun c_179 => ?_)
                            · exact absurd c_179 (by decide)
                            · refine lv_aload_n hx hb dL_isRead_214 rfl (lv_at hl 9 rfl) ?_
                              refine lv_bipush (v := (nI 48)) hx hb dL_isRead_215 (by decide) ?_
                              refine lv_iload hx hb dL_isRead_217 (lv_at hl 1 rfl) ?_
                              refine lv_iadd hx hb dL_isRead_219 ?_
                              rw [show (nI 48) + (nI (zd_e vx vy k65 0)) = (nI (48 + zd_e vx vy k65 0)) from nI_add 48 _]
                              refine lv_i2l (v := ((nI (48 + zd_e vx vy k65 0))).toInt64) hx hb dL_isRead_220 rfl ?_
                              have hpb2 : zp b z154 := zp_pd r1 (fun x y1 y2 y3 y4 => s1 x y1 y2 (by omega) (by omega)) (by omega) s2
                              refine xc_i (xr_V (As := [.long ((nI (48 + zd_e vx vy k65 0))).toInt64]) (rest := []) (κ := 16) ⟨hx, hb, hml, hown, hts⟩ (cz_put l O z154 b tb hpb2 (c0 := ((nI (48 + zd_e vx vy k65 0))).toInt64) (q := zt_s (zd_m vx vy) k65 + 0) (by omega) s2 (zc_cs (zd_e6 vx vy k65 0)).1) (cwV 1 hts gL_isRead_X6_put rfl rfl rfl (by decide +kernel) ⟨Nat.le_of_ble_eq_true rfl, Nat.le_of_ble_eq_true rfl⟩) hK hst hnw hS hW tb (by decide) rfl rfl rfl hl.1 rfl (Nat.le_of_ble_eq_true rfl) dL_isRead_221 ⟨Nat.zero_le _, Nat.zero_le _⟩) hS (fun r_182 M_180 H locs hq_181 hW hS => ?_)
                              obtain ⟨hq_181a, hq_181b⟩ := hq_181
                              rw [hq_181a]
                              refine lv_if_le (tgt := 248) hx hb dL_isRead_224 (by decide) (fun c_183 => ?_) (fun c_183 => ?_)
                              · exact absurd c_183 (nI_nle (by omega) (by omega))
                              · refine lv_aload_n hx hb dL_isRead_227 rfl (lv_at hl 10 rfl) ?_
                                refine lv_bipush (v := (nI 48)) hx hb dL_isRead_228 (by decide) ?_
                                refine lv_iload hx hb dL_isRead_230 (lv_at hl 1 rfl) ?_
                                refine lv_iadd hx hb dL_isRead_232 ?_
                                rw [show (nI 48) + (nI (zd_e vx vy k65 0)) = (nI (48 + zd_e vx vy k65 0)) from nI_add 48 _]
                                refine lv_i2l (v := ((nI (48 + zd_e vx vy k65 0))).toInt64) hx hb dL_isRead_233 rfl ?_
                                have hpc2 : zp bp M_180 := zp_fr (zp_pd (M' := z154) r2 (fun x y1 y2 y3 y4 => s1 x (by omega) (by omega) y1 y2) (by omega) s4) (fun x y1 y2 => hq_181b.2.2.2 x (by omega) (by omega))
                                refine xc_i (xr_V (As := [.long ((nI (48 + zd_e vx vy k65 0))).toInt64]) (rest := []) (κ := 16) ⟨hx, hb, hml, hown, hts⟩ (cz_put l O M_180 bp tp hpc2 (c0 := ((nI (48 + zd_e vx vy k65 0))).toInt64) (q := 0) (by omega) (by rw [hq_181b.2.2.2 _ (by omega) (by omega)]; exact s4) (zc_cs (zd_e6 vx vy k65 0)).1) (cwV 1 hts gL_isRead_X6_put rfl rfl rfl (by decide +kernel) ⟨Nat.le_of_ble_eq_true rfl, Nat.le_of_ble_eq_true rfl⟩) hK hst hnw hS hW tp (by decide) rfl rfl rfl hl.1 rfl (Nat.le_of_ble_eq_true rfl) dL_isRead_234 ⟨Nat.zero_le _, Nat.zero_le _⟩) hS (fun r_186 M_184 H locs hq_185 hW hS => ?_)
                                obtain ⟨hq_185a, hq_185b⟩ := hq_185
                                rw [hq_185a]
                                refine lv_iload hx hb dL_isRead_237 (lv_at hl 2 rfl) ?_
                                refine lv_iconst (v := (nI 1)) hx hb dL_isRead_239 (by decide) ?_
                                refine lv_iadd hx hb dL_isRead_240 ?_
                                rw [show (nI 0) + (nI 1) = (nI (0 + 1)) from nI_add _ 1]
                                refine lv_icmp_ne (tgt := 248) hx hb dL_isRead_241 (by decide) (fun c_187 => ?_) (fun c_187 => ?_)
                                · exact absurd c_187 (fun z => z rfl)
                                · refine lv_iconst (v := (nI 1)) hx hb dL_isRead_244 (by decide) ?_
                                  refine lv_goto (tgt := 249) hx hb dL_isRead_245 (by decide) ?_
                                  refine lv_istore (lv' := [(4, .int (nI 1)), (10, .int (nI (zd_e vx vy k65 0))), (12, .int (nI (zd_e vx vy k65 0))), (11, .int (nI 0)), (8, .int (zd_z vx vy (nI k65))), (9, .int (nI (zd_m vx vy k65))), (7, .int (nI k65)), (5, .int (nI nn)), (6, .int (nI n)), (0, .ref b), (1, .ref bp), (2, .int vx), (3, .int vy)]) hx hb dL_isRead_249 hl (by decide) rfl (fun ls hl => ?_)
                                  refine lv_iinc (v := (nI (0 + 1))) (lv' := [(11, .int (nI (0 + 1))), (4, .int (nI 1)), (10, .int (nI (zd_e vx vy k65 0))), (12, .int (nI (zd_e vx vy k65 0))), (8, .int (zd_z vx vy (nI k65))), (9, .int (nI (zd_m vx vy k65))), (7, .int (nI k65)), (5, .int (nI nn)), (6, .int (nI n)), (0, .ref b), (1, .ref bp), (2, .int vx), (3, .int vy)]) hx hb dL_isRead_251 hl (k := 3) rfl ((nI_1 0)) (by decide) rfl (fun ls hl => ?_)
                                  refine lv_goto (tgt := 154) hx hb dL_isRead_254 (by decide) ?_
                                  exact ih154 M_184 _ _ _ ⟨hW, hS, lv_sub hl [0, 2, 4, 5, 6, 1, 7, 8, 9, 10, 11, 12] rfl, (zR2_1 hbc hE154 hk154 (zc_cs (zd_e6 vx vy k65 0)).2 hq_181b hq_185b)⟩
                          · exact absurd (show (-1 : Int32) < 0 by decide) c_178
                      · refine lv_iload hx hb dL_isRead_161 (lv_at hl 2 rfl) ?_
                        refine lv_iload hx hb dL_isRead_163 (lv_at hl 0 rfl) ?_
                        refine lv_ishr hx hb dL_isRead_165 ?_
                        refine lv_iload hx hb dL_isRead_166 (lv_at hl 1 rfl) ?_
                        refine lv_if_ge (tgt := 176) hx hb dL_isRead_168 (by decide) (fun c_188 => ?_) (fun c_188 => ?_)
                        · refine lv_iconst (v := (nI 5)) hx hb dL_isRead_176 (by decide) ?_
                          refine xc_i (xr_S (As := [.int ((zd_z vx vy (nI k65)) >>> ((nI (i + 1)) &&& 31)), .int (nI 5)]) (rest := []) ⟨hx, hb, hml, hown, hts⟩ (c_L_up l O z154 ((zd_z vx vy (nI k65)) >>> ((nI (i + 1)) &&& 31)) (n := 5) (by omega) (by omega)) (va_cwS 2 hts gL_isRead_L_up rfl rfl rfl (by decide +kernel) ⟨Nat.le_of_ble_eq_true rfl, Nat.le_of_ble_eq_true rfl⟩) hK hst hnw hS hW rfl hl.1 rfl (Nat.le_of_ble_eq_true rfl) dL_isRead_177 ⟨Nat.zero_le _, Nat.zero_le _⟩) hS (fun r_191 M_189 H locs hq_190 hW hS => ?_)
                          obtain ⟨hq_190a, hq_190b⟩ := hq_190
                          rw [hq_190b] at hW
                          rw [hq_190a]
                          refine lv_istore (lv' := [(12, .int (nI (zu_u ((zd_z vx vy (nI k65)) >>> ((nI (i + 1)) &&& 31)) 5))), (11, .int (nI (i + 1))), (10, .int (zd_l vx vy k65 (i + 1))), (8, .int (zd_z vx vy (nI k65))), (9, .int (nI (zd_m vx vy k65))), (7, .int (nI k65)), (4, .int (nI 1)), (5, .int (nI nn)), (6, .int (nI n)), (0, .ref b), (1, .ref bp), (2, .int vx), (3, .int vy)]) hx hb dL_isRead_180 hl (by decide) rfl (fun ls hl => ?_)
                          refine lv_iload hx hb dL_isRead_182 (lv_at hl 2 rfl) ?_
                          refine lv_if_lt (tgt := 201) hx hb dL_isRead_184 (by decide) (fun c_192 => ?_) (fun c_192 => ?_)
                          · exact absurd c_192 (nI_pos (by have := zd_e6 vx vy k65 i; omega))
                          · refine lv_iload hx hb dL_isRead_187 (lv_at hl 0 rfl) ?_
                            refine lv_iload hx hb dL_isRead_189 (lv_at hl 2 rfl) ?_
                            refine lv_icmp_lt (tgt := 201) hx hb dL_isRead_191 (by decide) (fun c_193 => ?_) (fun c_193 => ?_)
                            · have hlt : ¬ zd_e vx vy k65 i ≤ (zu_u ((zd_z vx vy (nI k65)) >>> ((nI (i + 1)) &&& 31)) 5) := Nat.not_le.mpr ((nI_ltI (by have := zu_lt (v := (zd_z vx vy (nI k65)) >>> ((nI (i + 1)) &&& 31)) (n := 5) (by omega); omega) (by have := zd_e6 vx vy k65 i; omega)).mp c_193)
                              refine lv_iload hx hb dL_isRead_201 (lv_at hl 0 rfl) ?_
                              rw [show (nI (zu_u ((zd_z vx vy (nI k65)) >>> ((nI (i + 1)) &&& 31)) 5)) = nI (zd_e vx vy k65 (i + 1)) from by show _ = nI (if _ then _ else _); rw [if_neg hlt]]
                              refine lv_istore (lv' := [(12, .int (nI (zd_e vx vy k65 (i + 1)))), (11, .int (nI (i + 1))), (10, .int (zd_l vx vy k65 (i + 1))), (8, .int (zd_z vx vy (nI k65))), (9, .int (nI (zd_m vx vy k65))), (7, .int (nI k65)), (4, .int (nI 1)), (5, .int (nI nn)), (6, .int (nI n)), (0, .ref b), (1, .ref bp), (2, .int vx), (3, .int vy)]) hx hb dL_isRead_203 hl (by decide) rfl (fun ls hl => ?_)
                              refine lv_iload hx hb dL_isRead_205 (lv_at hl 0 rfl) ?_
                              refine lv_istore (lv' := [(10, .int (nI (zd_e vx vy k65 (i + 1)))), (12, .int (nI (zd_e vx vy k65 (i + 1)))), (11, .int (nI (i + 1))), (8, .int (zd_z vx vy (nI k65))), (9, .int (nI (zd_m vx vy k65))), (7, .int (nI k65)), (4, .int (nI 1)), (5, .int (nI nn)), (6, .int (nI n)), (0, .ref b), (1, .ref bp), (2, .int vx), (3, .int vy)]) hx hb dL_isRead_207 hl (by decide) rfl (fun ls hl => ?_)
                              refine lv_iload hx hb dL_isRead_209 (lv_at hl 6 rfl) ?_
                              refine lv_if_eq (tgt := 248) hx hb dL_isRead_211 (by decide) (fun c_194 => ?_) (fun c_194 => ?_)
                              · exact absurd c_194 (by decide)
                              · refine lv_aload_n hx hb dL_isRead_214 rfl (lv_at hl 9 rfl) ?_
                                refine lv_bipush (v := (nI 48)) hx hb dL_isRead_215 (by decide) ?_
                                refine lv_iload hx hb dL_isRead_217 (lv_at hl 1 rfl) ?_
                                refine lv_iadd hx hb dL_isRead_219 ?_
                                rw [show (nI 48) + (nI (zd_e vx vy k65 (i + 1))) = (nI (48 + zd_e vx vy k65 (i + 1))) from nI_add 48 _]
                                refine lv_i2l (v := ((nI (48 + zd_e vx vy k65 (i + 1)))).toInt64) hx hb dL_isRead_220 rfl ?_
                                have hpb2 : zp b z154 := zp_pd r1 (fun x y1 y2 y3 y4 => s1 x y1 y2 (by omega) (by omega)) (by omega) s2
                                refine xc_i (xr_V (As := [.long ((nI (48 + zd_e vx vy k65 (i + 1)))).toInt64]) (rest := []) (κ := 16) ⟨hx, hb, hml, hown, hts⟩ (cz_put l O z154 b tb hpb2 (c0 := ((nI (48 + zd_e vx vy k65 (i + 1)))).toInt64) (q := zt_s (zd_m vx vy) k65 + (i + 1)) (by omega) s2 (zc_cs (zd_e6 vx vy k65 (i + 1))).1) (cwV 1 hts gL_isRead_X6_put rfl rfl rfl (by decide +kernel) ⟨Nat.le_of_ble_eq_true rfl, Nat.le_of_ble_eq_true rfl⟩) hK hst hnw hS hW tb (by decide) rfl rfl rfl hl.1 rfl (Nat.le_of_ble_eq_true rfl) dL_isRead_221 ⟨Nat.zero_le _, Nat.zero_le _⟩) hS (fun r_197 M_195 H locs hq_196 hW hS => ?_)
                                obtain ⟨hq_196a, hq_196b⟩ := hq_196
                                rw [hq_196a]
                                refine lv_if_le (tgt := 248) hx hb dL_isRead_224 (by decide) (fun c_198 => ?_) (fun c_198 => ?_)
                                · exact absurd c_198 (nI_nle (by omega) (by omega))
                                · refine lv_aload_n hx hb dL_isRead_227 rfl (lv_at hl 10 rfl) ?_
                                  refine lv_bipush (v := (nI 48)) hx hb dL_isRead_228 (by decide) ?_
                                  refine lv_iload hx hb dL_isRead_230 (lv_at hl 1 rfl) ?_
                                  refine lv_iadd hx hb dL_isRead_232 ?_
                                  rw [show (nI 48) + (nI (zd_e vx vy k65 (i + 1))) = (nI (48 + zd_e vx vy k65 (i + 1))) from nI_add 48 _]
                                  refine lv_i2l (v := ((nI (48 + zd_e vx vy k65 (i + 1)))).toInt64) hx hb dL_isRead_233 rfl ?_
                                  have hpc2 : zp bp M_195 := zp_fr (zp_pd (M' := z154) r2 (fun x y1 y2 y3 y4 => s1 x (by omega) (by omega) y1 y2) (by omega) s4) (fun x y1 y2 => hq_196b.2.2.2 x (by omega) (by omega))
                                  refine xc_i (xr_V (As := [.long ((nI (48 + zd_e vx vy k65 (i + 1)))).toInt64]) (rest := []) (κ := 16) ⟨hx, hb, hml, hown, hts⟩ (cz_put l O M_195 bp tp hpc2 (c0 := ((nI (48 + zd_e vx vy k65 (i + 1)))).toInt64) (q := (i + 1)) (by omega) (by rw [hq_196b.2.2.2 _ (by omega) (by omega)]; exact s4) (zc_cs (zd_e6 vx vy k65 (i + 1))).1) (cwV 1 hts gL_isRead_X6_put rfl rfl rfl (by decide +kernel) ⟨Nat.le_of_ble_eq_true rfl, Nat.le_of_ble_eq_true rfl⟩) hK hst hnw hS hW tp (by decide) rfl rfl rfl hl.1 rfl (Nat.le_of_ble_eq_true rfl) dL_isRead_234 ⟨Nat.zero_le _, Nat.zero_le _⟩) hS (fun r_201 M_199 H locs hq_200 hW hS => ?_)
                                  obtain ⟨hq_200a, hq_200b⟩ := hq_200
                                  rw [hq_200a]
                                  refine lv_iload hx hb dL_isRead_237 (lv_at hl 2 rfl) ?_
                                  refine lv_iconst (v := (nI 1)) hx hb dL_isRead_239 (by decide) ?_
                                  refine lv_iadd hx hb dL_isRead_240 ?_
                                  rw [show (nI (i + 1)) + (nI 1) = (nI ((i + 1) + 1)) from nI_add _ 1]
                                  refine lv_icmp_ne (tgt := 248) hx hb dL_isRead_241 (by decide) (fun c_202 => ?_) (fun c_202 => ?_)
                                  · exact absurd c_202 (fun z => z rfl)
                                  · refine lv_iconst (v := (nI 1)) hx hb dL_isRead_244 (by decide) ?_
                                    refine lv_goto (tgt := 249) hx hb dL_isRead_245 (by decide) ?_
                                    refine lv_istore (lv' := [(4, .int (nI 1)), (10, .int (nI (zd_e vx vy k65 (i + 1)))), (12, .int (nI (zd_e vx vy k65 (i + 1)))), (11, .int (nI (i + 1))), (8, .int (zd_z vx vy (nI k65))), (9, .int (nI (zd_m vx vy k65))), (7, .int (nI k65)), (5, .int (nI nn)), (6, .int (nI n)), (0, .ref b), (1, .ref bp), (2, .int vx), (3, .int vy)]) hx hb dL_isRead_249 hl (by decide) rfl (fun ls hl => ?_)
                                    refine lv_iinc (v := (nI ((i + 1) + 1))) (lv' := [(11, .int (nI ((i + 1) + 1))), (4, .int (nI 1)), (10, .int (nI (zd_e vx vy k65 (i + 1)))), (12, .int (nI (zd_e vx vy k65 (i + 1)))), (8, .int (zd_z vx vy (nI k65))), (9, .int (nI (zd_m vx vy k65))), (7, .int (nI k65)), (5, .int (nI nn)), (6, .int (nI n)), (0, .ref b), (1, .ref bp), (2, .int vx), (3, .int vy)]) hx hb dL_isRead_251 hl (k := 3) rfl ((nI_1 (i + 1))) (by decide) rfl (fun ls hl => ?_)
                                    refine lv_goto (tgt := 154) hx hb dL_isRead_254 (by decide) ?_
                                    exact ih154 M_199 _ _ _ ⟨hW, hS, lv_sub hl [0, 2, 4, 5, 6, 1, 7, 8, 9, 10, 11, 12] rfl, (zR2_1 hbc hE154 hk154 (zc_cs (zd_e6 vx vy k65 (i + 1))).2 hq_196b hq_200b)⟩
                            · have hlt : zd_e vx vy k65 i ≤ (zu_u ((zd_z vx vy (nI k65)) >>> ((nI (i + 1)) &&& 31)) 5) := by rcases Nat.lt_or_ge (zu_u ((zd_z vx vy (nI k65)) >>> ((nI (i + 1)) &&& 31)) 5) (zd_e vx vy k65 i) with q | q; exact absurd (nI_lt q (by have := zd_e6 vx vy k65 i; omega)) c_193; exact q
                              refine lv_iload hx hb dL_isRead_194 (lv_at hl 0 rfl) ?_
                              refine lv_iconst (v := (nI 1)) hx hb dL_isRead_196 (by decide) ?_
                              refine lv_iadd hx hb dL_isRead_197 ?_
                              refine lv_goto (tgt := 203) hx hb dL_isRead_198 (by decide) ?_
                              rw [show ((nI (zu_u ((zd_z vx vy (nI k65)) >>> ((nI (i + 1)) &&& 31)) 5)) + (nI 1)) = nI (zd_e vx vy k65 (i + 1)) from by show _ = nI (if _ then _ else _); rw [if_pos hlt]; exact nI_add _ 1]
                              refine lv_istore (lv' := [(12, .int (nI (zd_e vx vy k65 (i + 1)))), (11, .int (nI (i + 1))), (10, .int (zd_l vx vy k65 (i + 1))), (8, .int (zd_z vx vy (nI k65))), (9, .int (nI (zd_m vx vy k65))), (7, .int (nI k65)), (4, .int (nI 1)), (5, .int (nI nn)), (6, .int (nI n)), (0, .ref b), (1, .ref bp), (2, .int vx), (3, .int vy)]) hx hb dL_isRead_203 hl (by decide) rfl (fun ls hl => ?_)
                              refine lv_iload hx hb dL_isRead_205 (lv_at hl 0 rfl) ?_
                              refine lv_istore (lv' := [(10, .int (nI (zd_e vx vy k65 (i + 1)))), (12, .int (nI (zd_e vx vy k65 (i + 1)))), (11, .int (nI (i + 1))), (8, .int (zd_z vx vy (nI k65))), (9, .int (nI (zd_m vx vy k65))), (7, .int (nI k65)), (4, .int (nI 1)), (5, .int (nI nn)), (6, .int (nI n)), (0, .ref b), (1, .ref bp), (2, .int vx), (3, .int vy)]) hx hb dL_isRead_207 hl (by decide) rfl (fun ls hl => ?_)
                              refine lv_iload hx hb dL_isRead_209 (lv_at hl 6 rfl) ?_
                              refine lv_if_eq (tgt := 248) hx hb dL_isRead_211 (by decide) (fun c_203 => ?_) (fun c_203 => ?_)
                              · exact absurd c_203 (by decide)
                              · refine lv_aload_n hx hb dL_isRead_214 rfl (lv_at hl 9 rfl) ?_
                                refine lv_bipush (v := (nI 48)) hx hb dL_isRead_215 (by decide) ?_
                                refine lv_iload hx hb dL_isRead_217 (lv_at hl 1 rfl) ?_
                                refine lv_iadd hx hb dL_isRead_219 ?_
                                rw [show (nI 48) + (nI (zd_e vx vy k65 (i + 1))) = (nI (48 + zd_e vx vy k65 (i + 1))) from nI_add 48 _]
                                refine lv_i2l (v := ((nI (48 + zd_e vx vy k65 (i + 1)))).toInt64) hx hb dL_isRead_220 rfl ?_
                                have hpb2 : zp b z154 := zp_pd r1 (fun x y1 y2 y3 y4 => s1 x y1 y2 (by omega) (by omega)) (by omega) s2
                                refine xc_i (xr_V (As := [.long ((nI (48 + zd_e vx vy k65 (i + 1)))).toInt64]) (rest := []) (κ := 16) ⟨hx, hb, hml, hown, hts⟩ (cz_put l O z154 b tb hpb2 (c0 := ((nI (48 + zd_e vx vy k65 (i + 1)))).toInt64) (q := zt_s (zd_m vx vy) k65 + (i + 1)) (by omega) s2 (zc_cs (zd_e6 vx vy k65 (i + 1))).1) (cwV 1 hts gL_isRead_X6_put rfl rfl rfl (by decide +kernel) ⟨Nat.le_of_ble_eq_true rfl, Nat.le_of_ble_eq_true rfl⟩) hK hst hnw hS hW tb (by decide) rfl rfl rfl hl.1 rfl (Nat.le_of_ble_eq_true rfl) dL_isRead_221 ⟨Nat.zero_le _, Nat.zero_le _⟩) hS (fun r_206 M_204 H locs hq_205 hW hS => ?_)
                                obtain ⟨hq_205a, hq_205b⟩ := hq_205
                                rw [hq_205a]
                                refine lv_if_le (tgt := 248) hx hb dL_isRead_224 (by decide) (fun c_207 => ?_) (fun c_207 => ?_)
                                · exact absurd c_207 (nI_nle (by omega) (by omega))
                                · refine lv_aload_n hx hb dL_isRead_227 rfl (lv_at hl 10 rfl) ?_
                                  refine lv_bipush (v := (nI 48)) hx hb dL_isRead_228 (by decide) ?_
                                  refine lv_iload hx hb dL_isRead_230 (lv_at hl 1 rfl) ?_
                                  refine lv_iadd hx hb dL_isRead_232 ?_
                                  rw [show (nI 48) + (nI (zd_e vx vy k65 (i + 1))) = (nI (48 + zd_e vx vy k65 (i + 1))) from nI_add 48 _]
                                  refine lv_i2l (v := ((nI (48 + zd_e vx vy k65 (i + 1)))).toInt64) hx hb dL_isRead_233 rfl ?_
                                  have hpc2 : zp bp M_204 := zp_fr (zp_pd (M' := z154) r2 (fun x y1 y2 y3 y4 => s1 x (by omega) (by omega) y1 y2) (by omega) s4) (fun x y1 y2 => hq_205b.2.2.2 x (by omega) (by omega))
                                  refine xc_i (xr_V (As := [.long ((nI (48 + zd_e vx vy k65 (i + 1)))).toInt64]) (rest := []) (κ := 16) ⟨hx, hb, hml, hown, hts⟩ (cz_put l O M_204 bp tp hpc2 (c0 := ((nI (48 + zd_e vx vy k65 (i + 1)))).toInt64) (q := (i + 1)) (by omega) (by rw [hq_205b.2.2.2 _ (by omega) (by omega)]; exact s4) (zc_cs (zd_e6 vx vy k65 (i + 1))).1) (cwV 1 hts gL_isRead_X6_put rfl rfl rfl (by decide +kernel) ⟨Nat.le_of_ble_eq_true rfl, Nat.le_of_ble_eq_true rfl⟩) hK hst hnw hS hW tp (by decide) rfl rfl rfl hl.1 rfl (Nat.le_of_ble_eq_true rfl) dL_isRead_234 ⟨Nat.zero_le _, Nat.zero_le _⟩) hS (fun r_210 M_208 H locs hq_209 hW hS => ?_)
                                  obtain ⟨hq_209a, hq_209b⟩ := hq_209
                                  rw [hq_209a]
                                  refine lv_iload hx hb dL_isRead_237 (lv_at hl 2 rfl) ?_
                                  refine lv_iconst (v := (nI 1)) hx hb dL_isRead_239 (by decide) ?_
                                  refine lv_iadd hx hb dL_isRead_240 ?_
                                  rw [show (nI (i + 1)) + (nI 1) = (nI ((i + 1) + 1)) from nI_add _ 1]
                                  refine lv_icmp_ne (tgt := 248) hx hb dL_isRead_241 (by decide) (fun c_211 => ?_) (fun c_211 => ?_)
                                  · exact absurd c_211 (fun z => z rfl)
                                  · refine lv_iconst (v := (nI 1)) hx hb dL_isRead_244 (by decide) ?_
                                    refine lv_goto (tgt := 249) hx hb dL_isRead_245 (by decide) ?_
                                    refine lv_istore (lv' := [(4, .int (nI 1)), (10, .int (nI (zd_e vx vy k65 (i + 1)))), (12, .int (nI (zd_e vx vy k65 (i + 1)))), (11, .int (nI (i + 1))), (8, .int (zd_z vx vy (nI k65))), (9, .int (nI (zd_m vx vy k65))), (7, .int (nI k65)), (5, .int (nI nn)), (6, .int (nI n)), (0, .ref b), (1, .ref bp), (2, .int vx), (3, .int vy)]) hx hb dL_isRead_249 hl (by decide) rfl (fun ls hl => ?_)
                                    refine lv_iinc (v := (nI ((i + 1) + 1))) (lv' := [(11, .int (nI ((i + 1) + 1))), (4, .int (nI 1)), (10, .int (nI (zd_e vx vy k65 (i + 1)))), (12, .int (nI (zd_e vx vy k65 (i + 1)))), (8, .int (zd_z vx vy (nI k65))), (9, .int (nI (zd_m vx vy k65))), (7, .int (nI k65)), (5, .int (nI nn)), (6, .int (nI n)), (0, .ref b), (1, .ref bp), (2, .int vx), (3, .int vy)]) hx hb dL_isRead_251 hl (k := 3) rfl ((nI_1 (i + 1))) (by decide) rfl (fun ls hl => ?_)
                                    refine lv_goto (tgt := 154) hx hb dL_isRead_254 (by decide) ?_
                                    exact ih154 M_208 _ _ _ ⟨hW, hS, lv_sub hl [0, 2, 4, 5, 6, 1, 7, 8, 9, 10, 11, 12] rfl, (zR2_1 hbc hE154 hk154 (zc_cs (zd_e6 vx vy k65 (i + 1))).2 hq_205b hq_209b)⟩
                        · exact absurd (nI_pos' (by have := zd_e6 vx vy k65 i; omega)) c_188
              · have hk0 : 0 < k65 := by rcases Nat.eq_zero_or_pos k65 with q | q; exact absurd (by rw [q]; rfl) c_154; exact q
                refine lv_aload_n hx hb dL_isRead_127 rfl (lv_at hl 7 rfl) ?_
                refine lv_ldc2 (v := 44) hx hb hown (hts (.constantLong RL 31 (44)) (List.mem_of_getElem? (i := 2) (by decide +kernel))) dL_isRead_128 ?_
                have hLk := l2 hk0
                refine xc_i (xr_V (As := [.long (44 : Int64)]) (rest := []) (κ := 16) ⟨hx, hb, hml, hown, hts⟩ (cz_put l O z65 b tb r1 (c0 := 44) (q := Lk) (by omega) l3 zc_cc.1) (cwV 1 hts gL_isRead_X6_put rfl rfl rfl (by decide +kernel) ⟨Nat.le_of_ble_eq_true rfl, Nat.le_of_ble_eq_true rfl⟩) hK hst hnw hS hW tb (by decide) rfl rfl rfl hl.1 rfl (Nat.le_of_ble_eq_true rfl) dL_isRead_131 ⟨Nat.zero_le _, Nat.zero_le _⟩) hS (fun r_214 M_212 H locs hq_213 hW hS => ?_)
                obtain ⟨hq_213a, hq_213b⟩ := hq_213
                rw [hq_213a]
                have hpc1 : zp bp M_212 := zp_fr r2 (fun x y1 y2 => hq_213b.2.2.2 x (by omega) (by omega))
                refine lv_if_le (tgt := 148) hx hb dL_isRead_134 (by decide) (fun c_215 => ?_) (fun c_215 => ?_)
                · exact absurd c_215 (nI_nle (by omega) (by omega))
                · refine lv_aload_n hx hb dL_isRead_137 rfl (lv_at hl 8 rfl) ?_
                  obtain ⟨-, -, LC, hLC, hLCM⟩ := id hpc1
                  refine xc_i (xr_V (As := []) (rest := []) (κ := 16) ⟨hx, hb, hml, hown, hts⟩ (cz_wipe l O M_212 bp tp hpc1) (cwV 0 hts gL_isRead_X6_wipe rfl rfl rfl (by decide +kernel) ⟨Nat.le_of_ble_eq_true rfl, Nat.le_of_ble_eq_true rfl⟩) hK hst hnw hS hW tp (by decide) rfl rfl rfl hl.1 rfl (Nat.le_of_ble_eq_true rfl) dL_isRead_138 ⟨Nat.zero_le _, Nat.zero_le _⟩) hS (fun r_218 M_216 H locs hq_217 hW hS => ?_)
                  obtain ⟨hq_217a, hq_217b⟩ := hq_217
                  rw [hq_217a, hLCM]
                  have hJ0 : zR2 b bp (zd_m vx vy) (zd_e vx vy) k65 0 z65 M_216 := by rw [hq_217b]; exact zR2_c hbc hE65 hk0 l3 l60 hq_213b
                  refine lv_if_lt (tgt := 148) hx hb dL_isRead_141 (by decide) (fun c_219 => ?_) (fun c_219 => ?_)
                  · exact absurd c_219 (nI_pos (by omega))
                  · refine lv_iconst (v := (nI 1)) hx hb dL_isRead_144 (by decide) ?_
                    refine lv_goto (tgt := 149) hx hb dL_isRead_145 (by decide) ?_
                    refine lv_istore (lv' := [(4, .int (nI 1)), (10, .int (-1)), (9, .int (nI (zd_m vx vy k65))), (8, .int (zd_z vx vy (nI k65))), (7, .int (nI k65)), (5, .int (nI nn)), (6, .int (nI n)), (0, .ref b), (1, .ref bp), (2, .int vx), (3, .int vy)]) hx hb dL_isRead_149 hl (by decide) rfl (fun ls hl => ?_)
                    refine lv_iconst (v := (nI 0)) hx hb dL_isRead_151 (by decide) ?_
                    refine lv_istore (lv' := [(11, .int (nI 0)), (4, .int (nI 1)), (10, .int (-1)), (9, .int (nI (zd_m vx vy k65))), (8, .int (zd_z vx vy (nI k65))), (7, .int (nI k65)), (5, .int (nI nn)), (6, .int (nI n)), (0, .ref b), (1, .ref bp), (2, .int vx), (3, .int vy)]) hx hb dL_isRead_152 hl (by decide) rfl (fun ls hl => ?_)
                    refine xl_up (σ := xm_T) (zd_m vx vy k65) (fun kk zz H locs ls => xw_D G g τ zz H ∧ va_S A s.heap H locs ∧ lv_has ls 13 [(11, .int (nI kk)), (10, .int (zd_l vx vy k65 kk)), (8, .int (zd_z vx vy (nI k65))), (9, .int (nI (zd_m vx vy k65))), (7, .int (nI k65)), (4, .int (nI 1)), (5, .int (nI nn)), (6, .int (nI n)), (0, .ref b), (1, .ref bp), (2, .int vx), (3, .int vy)] ∧ zR2 b bp (zd_m vx vy) (zd_e vx vy) k65 kk z65 zz) (fun z154 H locs ls hI => ?_) (fun k154 z154 H locs ls hk154 hI ih154 => ?_) (k0 := 0) (z0 := M_216) (Nat.zero_le _) ⟨hW, hS, lv_sub hl [0, 2, 4, 3, 5, 1, 6, 7, 8, 9, 10, 11] rfl, hJ0⟩
                    · obtain ⟨hW, hS, hl, hE154⟩ := hI
                      refine lv_iload hx hb dL_isRead_154 (lv_at hl 0 rfl) ?_
                      refine lv_iload hx hb dL_isRead_156 (lv_at hl 3 rfl) ?_
                      refine lv_icmp_ge (tgt := 257) hx hb dL_isRead_158 (by decide) (fun c_220 => ?_) (fun c_220 => ?_)
                      · refine lv_iload hx hb dL_isRead_257 (lv_at hl 5 rfl) ?_
                        refine lv_if_eq (tgt := 308) hx hb dL_isRead_259 (by decide) (fun c_221 => ?_) (fun c_221 => ?_)
                        · exact absurd c_221 (by decide)
                        · refine lv_aload_n hx hb dL_isRead_262 rfl (lv_at hl 9 rfl) ?_
                          obtain ⟨s1, s2, s3, s4, s5⟩ := id hE154
                          have hzal := zi_al hz k65 (zd_v vx vy k65) (by omega)
                          have hzc := zi_g (zi_g hzal r4) (zg_of (a := bp + 1) (M' := z154) (fun x y1 y2 => s1 x (by omega) (by omega) (by omega) (by omega)))
                          have hpc3 : zp bp z154 := zp_pd r2 (fun x y1 y2 y3 y4 => s1 x (by omega) (by omega) y1 y2) (by omega) s4
                          have hv1 : zt_v 1 (fun _ => zd_m vx vy k65) (fun _ => zd_e vx vy k65) := fun k _ => ⟨hm9.1, hm9.2, fun j _ => zd_e6 vx vy k65 j, fun j _ => zd_en vx vy k65 j⟩
                          refine xc_i (xr_V (As := []) (rest := []) (κ := 16) ⟨hx, hb, hml, hown, hts⟩ (cz_read l O z154 bp tp hpc3 hzc (NN := 1) (L := zd_m vx vy k65) (em := fun _ => zd_m vx vy k65) (ee := fun _ => zd_e vx vy k65) (by omega) s4 s5 hv1 (by show _ = 0 + zd_m vx vy k65 + 1; omega) (by omega)) (cwV 0 hts gL_isRead_X6_read rfl rfl rfl (by decide +kernel) ⟨Nat.le_of_ble_eq_true rfl, Nat.le_of_ble_eq_true rfl⟩) hK hst hnw hS hW tp (by decide) rfl rfl rfl hl.1 rfl (Nat.le_of_ble_eq_true rfl) dL_isRead_263 ⟨Nat.zero_le _, Nat.zero_le _⟩) hS (fun r_224 M_222 H locs hq_223 hW hS => ?_)
                          obtain ⟨hq_223a, hq_223b, hq_223c⟩ := hq_223
                          rw [hq_223a]
                          have hzw := zad_w hzc (m := zd_m vx vy k65) (e := fun j => nI (zd_e vx vy k65 j)) (by omega) (by omega) ⟨_, zd_e6 vx vy k65 0, rfl⟩
                          have hz3 : zi (bp + 1) M_222 (nn + k65 + 1) TT TT (20 + 14256 * NN) := zi_g (zi_al hzc 1 hv1 (by omega)) (zq_n hq_223b)
                          have hR1 : zR b bp M (zd_m vx vy) (zd_e vx vy) (k65 + 1) M_222 := zR_1 hbc hE65 hE154 (by omega) hq_223b
                          refine lv_iload hx hb dL_isRead_266 (lv_at hl 6 rfl) ?_
                          refine lv_iload hx hb dL_isRead_268 (lv_at hl 4 rfl) ?_
                          refine lv_iadd hx hb dL_isRead_270 ?_
                          rw [show (nI nn) + (nI k65) = (nI (nn + k65)) from nI_add nn k65]
                          refine lv_iconst (v := (nI 1)) hx hb dL_isRead_271 (by decide) ?_
                          refine lv_iadd hx hb dL_isRead_272 ?_
                          rw [show (nI (nn + k65)) + (nI 1) = (nI (nn + k65 + 1)) from nI_add _ 1]
                          refine lv_icmp_ne (tgt := 308) hx hb dL_isRead_273 (by decide) (fun c_225 => ?_) (fun c_225 => ?_)
                          · exact absurd c_225 (fun z => z rfl)
                          · refine lv_aload_n hx hb dL_isRead_276 rfl (lv_at hl 9 rfl) ?_
                            refine lv_iload hx hb dL_isRead_277 (lv_at hl 6 rfl) ?_
                            refine lv_iload hx hb dL_isRead_279 (lv_at hl 4 rfl) ?_
                            refine lv_iadd hx hb dL_isRead_281 ?_
                            rw [show (nI nn) + (nI k65) = (nI (nn + k65)) from nI_add nn k65]
                            refine lv_iconst (v := (nI 5)) hx hb dL_isRead_282 (by decide) ?_
                            refine xc_i (xr_V (As := [.int (nI (nn + k65)), .int (nI 5)]) (rest := []) (κ := 16) ⟨hx, hb, hml, hown, hts⟩ (cz_person l O M_222 bp tp hz3 (k := (nn + k65)) (jj := 5) (by omega) (by omega)) (cwV 2 hts gL_isRead_X6_person rfl rfl rfl (by decide +kernel) ⟨Nat.le_of_ble_eq_true rfl, Nat.le_of_ble_eq_true rfl⟩) hK hst hnw hS hW tp (by decide) rfl rfl rfl hl.1 rfl (Nat.le_of_ble_eq_true rfl) dL_isRead_283 ⟨Nat.zero_le _, Nat.zero_le _⟩) hS (fun r_228 M_226 H locs hq_227 hW hS => ?_)
                            obtain ⟨hq_227a, hq_227b⟩ := hq_227
                            rw [hq_227b] at hW
                            rw [hq_227a]
                            rw [show (zf_pe (bp + 1) M_222 (nn + k65) 5) = (nI (zd_m vx vy k65)) from (by show M_222 (bp + 1 + 2 * (nn + k65) + 34) 2 = _; rw [hq_223b.2.2.1 _ (by omega) (by omega)]; exact hzw.1)]
                            refine lv_iload hx hb dL_isRead_286 (lv_at hl 3 rfl) ?_
                            refine lv_icmp_ne (tgt := 308) hx hb dL_isRead_288 (by decide) (fun c_229 => ?_) (fun c_229 => ?_)
                            · exact absurd c_229 (fun z => z rfl)
                            · refine lv_aload_n hx hb dL_isRead_291 rfl (lv_at hl 9 rfl) ?_
                              refine lv_iload hx hb dL_isRead_292 (lv_at hl 6 rfl) ?_
                              refine lv_iload hx hb dL_isRead_294 (lv_at hl 4 rfl) ?_
                              refine lv_iadd hx hb dL_isRead_296 ?_
                              rw [show (nI nn) + (nI k65) = (nI (nn + k65)) from nI_add nn k65]
                              refine lv_iconst (v := (nI 0)) hx hb dL_isRead_297 (by decide) ?_
                              refine xc_i (xr_V (As := [.int (nI (nn + k65)), .int (nI 0)]) (rest := []) (κ := 16) ⟨hx, hb, hml, hown, hts⟩ (cz_person l O M_222 bp tp hz3 (k := (nn + k65)) (jj := 0) (by omega) (by omega)) (cwV 2 hts gL_isRead_X6_person rfl rfl rfl (by decide +kernel) ⟨Nat.le_of_ble_eq_true rfl, Nat.le_of_ble_eq_true rfl⟩) hK hst hnw hS hW tp (by decide) rfl rfl rfl hl.1 rfl (Nat.le_of_ble_eq_true rfl) dL_isRead_298 ⟨Nat.zero_le _, Nat.zero_le _⟩) hS (fun r_232 M_230 H locs hq_231 hW hS => ?_)
                              obtain ⟨hq_231a, hq_231b⟩ := hq_231
                              rw [hq_231b] at hW
                              rw [hq_231a]
                              rw [show (zf_pe (bp + 1) M_222 (nn + k65) 0) = (nI 0) from (by show M_222 (bp + 1 + 2 * (nn + k65) + 34) 3 = _; rw [hq_223b.2.2.1 _ (by omega) (by omega)]; exact hzw.2)]
                              refine lv_if_ne (tgt := 308) hx hb dL_isRead_301 (by decide) (fun c_233 => ?_) (fun c_233 => ?_)
                              · exact absurd c_233 (fun z => z rfl)
                              · refine lv_iconst (v := (nI 1)) hx hb dL_isRead_304 (by decide) ?_
                                refine lv_goto (tgt := 309) hx hb dL_isRead_305 (by decide) ?_
                                refine lv_istore (lv' := [(4, .int (nI 1)), (11, .int (nI (zd_m vx vy k65))), (10, .int (zd_l vx vy k65 (zd_m vx vy k65))), (8, .int (zd_z vx vy (nI k65))), (9, .int (nI (zd_m vx vy k65))), (7, .int (nI k65)), (5, .int (nI nn)), (6, .int (nI n)), (0, .ref b), (1, .ref bp), (2, .int vx), (3, .int vy)]) hx hb dL_isRead_309 hl (by decide) rfl (fun ls hl => ?_)
                                refine lv_iinc (v := (nI (k65 + 1))) (lv' := [(7, .int (nI (k65 + 1))), (4, .int (nI 1)), (11, .int (nI (zd_m vx vy k65))), (10, .int (zd_l vx vy k65 (zd_m vx vy k65))), (8, .int (zd_z vx vy (nI k65))), (9, .int (nI (zd_m vx vy k65))), (5, .int (nI nn)), (6, .int (nI n)), (0, .ref b), (1, .ref bp), (2, .int vx), (3, .int vy)]) hx hb dL_isRead_311 hl (k := 5) rfl ((nI_1 k65)) (by decide) rfl (fun ls hl => ?_)
                                refine lv_goto (tgt := 65) hx hb dL_isRead_314 (by decide) ?_
                                exact ih65 M_222 _ _ _ ⟨hW, hS, lv_sub hl [0, 1, 6, 7, 8, 9, 10, 11] rfl, hR1⟩
                      · exact absurd (nI_le (Nat.le_refl _) (by omega)) c_220
                    · obtain ⟨hW, hS, hl, hE154⟩ := hI
                      obtain ⟨s1, s2, s3, s4, s5⟩ := id hE154
                      refine lv_iload hx hb dL_isRead_154 (lv_at hl 0 rfl) ?_
                      refine lv_iload hx hb dL_isRead_156 (lv_at hl 3 rfl) ?_
                      refine lv_icmp_ge (tgt := 257) hx hb dL_isRead_158 (by decide) (fun c_234 => ?_) (fun c_234 => ?_)
                      · exact absurd c_234 (nI_ge hk154 (by omega))
                      · obtain rfl | ⟨i, rfl⟩ : k154 = 0 ∨ ∃ i, k154 = i + 1 := by rcases Nat.eq_zero_or_pos k154 with q | q; exact Or.inl q; exact Or.inr ⟨k154 - 1, by omega⟩
                        · refine lv_iload hx hb dL_isRead_161 (lv_at hl 2 rfl) ?_
                          refine lv_iload hx hb dL_isRead_163 (lv_at hl 0 rfl) ?_
                          refine lv_ishr hx hb dL_isRead_165 ?_
                          refine lv_iload hx hb dL_isRead_166 (lv_at hl 1 rfl) ?_
                          refine lv_if_ge (tgt := 176) hx hb dL_isRead_168 (by decide) (fun c_235 => ?_) (fun c_235 => ?_)
                          · exact absurd c_235 (show ¬ (-1 : Int32) ≥ 0 by decide)
                          · refine lv_bipush (v := (nI 6)) hx hb dL_isRead_171 (by decide) ?_
                            refine lv_goto (tgt := 177) hx hb dL_isRead_173 (by decide) ?_
                            refine xc_i (xr_S (As := [.int ((zd_z vx vy (nI k65)) >>> ((nI 0) &&& 31)), .int (nI 6)]) (rest := []) ⟨hx, hb, hml, hown, hts⟩ (c_L_up l O z154 ((zd_z vx vy (nI k65)) >>> ((nI 0) &&& 31)) (n := 6) (by omega) (by omega)) (va_cwS 2 hts gL_isRead_L_up rfl rfl rfl (by decide +kernel) ⟨Nat.le_of_ble_eq_true rfl, Nat.le_of_ble_eq_true rfl⟩) hK hst hnw hS hW rfl hl.1 rfl (Nat.le_of_ble_eq_true rfl) dL_isRead_177 ⟨Nat.zero_le _, Nat.zero_le _⟩) hS (fun r_238 M_236 H locs hq_237 hW hS => ?_)
                            obtain ⟨hq_237a, hq_237b⟩ := hq_237
                            rw [hq_237b] at hW
                            rw [hq_237a]
                            refine lv_istore (lv' := [(12, .int (nI (zu_u ((zd_z vx vy (nI k65)) >>> ((nI 0) &&& 31)) 6))), (11, .int (nI 0)), (10, .int (zd_l vx vy k65 0)), (8, .int (zd_z vx vy (nI k65))), (9, .int (nI (zd_m vx vy k65))), (7, .int (nI k65)), (4, .int (nI 1)), (5, .int (nI nn)), (6, .int (nI n)), (0, .ref b), (1, .ref bp), (2, .int vx), (3, .int vy)]) hx hb dL_isRead_180 hl (by decide) rfl (fun ls hl => ?_)
                            refine lv_iload hx hb dL_isRead_182 (lv_at hl 2 rfl) ?_
                            refine lv_if_lt (tgt := 201) hx hb dL_isRead_184 (by decide) (fun c_239 => ?_) (fun c_239 => ?_)
                            · refine lv_iload hx hb dL_isRead_201 (lv_at hl 0 rfl) ?_
                              rw [show (nI (zu_u ((zd_z vx vy (nI k65)) >>> ((nI 0) &&& 31)) 6)) = nI (zd_e vx vy k65 0) from rfl]
                              refine lv_istore (lv' := [(12, .int (nI (zd_e vx vy k65 0))), (11, .int (nI 0)), (10, .int (zd_l vx vy k65 0)), (8, .int (zd_z vx vy (nI k65))), (9, .int (nI (zd_m vx vy k65))), (7, .int (nI k65)), (4, .int (nI 1)), (5, .int (nI nn)), (6, .int (nI n)), (0, .ref b), (1, .ref bp), (2, .int vx), (3, .int vy)]) hx hb dL_isRead_203 hl (by decide) rfl (fun ls hl => ?_)
                              refine lv_iload hx hb dL_isRead_205 (lv_at hl 0 rfl) ?_
                              refine lv_istore (lv' := [(10, .int (nI (zd_e vx vy k65 0))), (12, .int (nI (zd_e vx vy k65 0))), (11, .int (nI 0)), (8, .int (zd_z vx vy (nI k65))), (9, .int (nI (zd_m vx vy k65))), (7, .int (nI k65)), (4, .int (nI 1)), (5, .int (nI nn)), (6, .int (nI n)), (0, .ref b), (1, .ref bp), (2, .int vx), (3, .int vy)]) hx hb dL_isRead_207 hl (by decide) rfl (fun ls hl => ?_)
                              refine lv_iload hx hb dL_isRead_209 (lv_at hl 6 rfl) ?_
                              refine lv_if_eq (tgt := 248) hx hb dL_isRead_211 (by decide) (fun c_240 => ?_) (fun c_240 => ?_)
                              · exact absurd c_240 (by decide)
                              · refine lv_aload_n hx hb dL_isRead_214 rfl (lv_at hl 9 rfl) ?_
                                refine lv_bipush (v := (nI 48)) hx hb dL_isRead_215 (by decide) ?_
                                refine lv_iload hx hb dL_isRead_217 (lv_at hl 1 rfl) ?_
                                refine lv_iadd hx hb dL_isRead_219 ?_
                                rw [show (nI 48) + (nI (zd_e vx vy k65 0)) = (nI (48 + zd_e vx vy k65 0)) from nI_add 48 _]
                                refine lv_i2l (v := ((nI (48 + zd_e vx vy k65 0))).toInt64) hx hb dL_isRead_220 rfl ?_
                                have hpb2 : zp b z154 := zp_pd r1 (fun x y1 y2 y3 y4 => s1 x y1 y2 (by omega) (by omega)) (by omega) s2
                                refine xc_i (xr_V (As := [.long ((nI (48 + zd_e vx vy k65 0))).toInt64]) (rest := []) (κ := 16) ⟨hx, hb, hml, hown, hts⟩ (cz_put l O z154 b tb hpb2 (c0 := ((nI (48 + zd_e vx vy k65 0))).toInt64) (q := zt_s (zd_m vx vy) k65 + 0) (by omega) s2 (zc_cs (zd_e6 vx vy k65 0)).1) (cwV 1 hts gL_isRead_X6_put rfl rfl rfl (by decide +kernel) ⟨Nat.le_of_ble_eq_true rfl, Nat.le_of_ble_eq_true rfl⟩) hK hst hnw hS hW tb (by decide) rfl rfl rfl hl.1 rfl (Nat.le_of_ble_eq_true rfl) dL_isRead_221 ⟨Nat.zero_le _, Nat.zero_le _⟩) hS (fun r_243 M_241 H locs hq_242 hW hS => ?_)
                                obtain ⟨hq_242a, hq_242b⟩ := hq_242
                                rw [hq_242a]
                                refine lv_if_le (tgt := 248) hx hb dL_isRead_224 (by decide) (fun c_244 => ?_) (fun c_244 => ?_)
                                · exact absurd c_244 (nI_nle (by omega) (by omega))
                                · refine lv_aload_n hx hb dL_isRead_227 rfl (lv_at hl 10 rfl) ?_
                                  refine lv_bipush (v := (nI 48)) hx hb dL_isRead_228 (by decide) ?_
                                  refine lv_iload hx hb dL_isRead_230 (lv_at hl 1 rfl) ?_
                                  refine lv_iadd hx hb dL_isRead_232 ?_
                                  rw [show (nI 48) + (nI (zd_e vx vy k65 0)) = (nI (48 + zd_e vx vy k65 0)) from nI_add 48 _]
                                  refine lv_i2l (v := ((nI (48 + zd_e vx vy k65 0))).toInt64) hx hb dL_isRead_233 rfl ?_
                                  have hpc2 : zp bp M_241 := zp_fr (zp_pd (M' := z154) r2 (fun x y1 y2 y3 y4 => s1 x (by omega) (by omega) y1 y2) (by omega) s4) (fun x y1 y2 => hq_242b.2.2.2 x (by omega) (by omega))
                                  refine xc_i (xr_V (As := [.long ((nI (48 + zd_e vx vy k65 0))).toInt64]) (rest := []) (κ := 16) ⟨hx, hb, hml, hown, hts⟩ (cz_put l O M_241 bp tp hpc2 (c0 := ((nI (48 + zd_e vx vy k65 0))).toInt64) (q := 0) (by omega) (by rw [hq_242b.2.2.2 _ (by omega) (by omega)]; exact s4) (zc_cs (zd_e6 vx vy k65 0)).1) (cwV 1 hts gL_isRead_X6_put rfl rfl rfl (by decide +kernel) ⟨Nat.le_of_ble_eq_true rfl, Nat.le_of_ble_eq_true rfl⟩) hK hst hnw hS hW tp (by decide) rfl rfl rfl hl.1 rfl (Nat.le_of_ble_eq_true rfl) dL_isRead_234 ⟨Nat.zero_le _, Nat.zero_le _⟩) hS (fun r_247 M_245 H locs hq_246 hW hS => ?_)
                                  obtain ⟨hq_246a, hq_246b⟩ := hq_246
                                  rw [hq_246a]
                                  refine lv_iload hx hb dL_isRead_237 (lv_at hl 2 rfl) ?_
                                  refine lv_iconst (v := (nI 1)) hx hb dL_isRead_239 (by decide) ?_
                                  refine lv_iadd hx hb dL_isRead_240 ?_
                                  rw [show (nI 0) + (nI 1) = (nI (0 + 1)) from nI_add _ 1]
                                  refine lv_icmp_ne (tgt := 248) hx hb dL_isRead_241 (by decide) (fun c_248 => ?_) (fun c_248 => ?_)
                                  · exact absurd c_248 (fun z => z rfl)
                                  · refine lv_iconst (v := (nI 1)) hx hb dL_isRead_244 (by decide) ?_
                                    refine lv_goto (tgt := 249) hx hb dL_isRead_245 (by decide) ?_
                                    refine lv_istore (lv' := [(4, .int (nI 1)), (10, .int (nI (zd_e vx vy k65 0))), (12, .int (nI (zd_e vx vy k65 0))), (11, .int (nI 0)), (8, .int (zd_z vx vy (nI k65))), (9, .int (nI (zd_m vx vy k65))), (7, .int (nI k65)), (5, .int (nI nn)), (6, .int (nI n)), (0, .ref b), (1, .ref bp), (2, .int vx), (3, .int vy)]) hx hb dL_isRead_249 hl (by decide) rfl (fun ls hl => ?_)
                                    refine lv_iinc (v := (nI (0 + 1))) (lv' := [(11, .int (nI (0 + 1))), (4, .int (nI 1)), (10, .int (nI (zd_e vx vy k65 0))), (12, .int (nI (zd_e vx vy k65 0))), (8, .int (zd_z vx vy (nI k65))), (9, .int (nI (zd_m vx vy k65))), (7, .int (nI k65)), (5, .int (nI nn)), (6, .int (nI n)), (0, .ref b), (1, .ref bp), (2, .int vx), (3, .int vy)]) hx hb dL_isRead_251 hl (k := 3) rfl ((nI_1 0)) (by decide) rfl (fun ls hl => ?_)
                                    refine lv_goto (tgt := 154) hx hb dL_isRead_254 (by decide) ?_
                                    exact ih154 M_245 _ _ _ ⟨hW, hS, lv_sub hl [0, 2, 4, 5, 6, 1, 7, 8, 9, 10, 11, 12] rfl, (zR2_1 hbc hE154 hk154 (zc_cs (zd_e6 vx vy k65 0)).2 hq_242b hq_246b)⟩
                            · exact absurd (show (-1 : Int32) < 0 by decide) c_239
                        · refine lv_iload hx hb dL_isRead_161 (lv_at hl 2 rfl) ?_
                          refine lv_iload hx hb dL_isRead_163 (lv_at hl 0 rfl) ?_
                          refine lv_ishr hx hb dL_isRead_165 ?_
                          refine lv_iload hx hb dL_isRead_166 (lv_at hl 1 rfl) ?_
                          refine lv_if_ge (tgt := 176) hx hb dL_isRead_168 (by decide) (fun c_249 => ?_) (fun c_249 => ?_)
                          · refine lv_iconst (v := (nI 5)) hx hb dL_isRead_176 (by decide) ?_
                            refine xc_i (xr_S (As := [.int ((zd_z vx vy (nI k65)) >>> ((nI (i + 1)) &&& 31)), .int (nI 5)]) (rest := []) ⟨hx, hb, hml, hown, hts⟩ (c_L_up l O z154 ((zd_z vx vy (nI k65)) >>> ((nI (i + 1)) &&& 31)) (n := 5) (by omega) (by omega)) (va_cwS 2 hts gL_isRead_L_up rfl rfl rfl (by decide +kernel) ⟨Nat.le_of_ble_eq_true rfl, Nat.le_of_ble_eq_true rfl⟩) hK hst hnw hS hW rfl hl.1 rfl (Nat.le_of_ble_eq_true rfl) dL_isRead_177 ⟨Nat.zero_le _, Nat.zero_le _⟩) hS (fun r_252 M_250 H locs hq_251 hW hS => ?_)
                            obtain ⟨hq_251a, hq_251b⟩ := hq_251
                            rw [hq_251b] at hW
                            rw [hq_251a]
                            refine lv_istore (lv' := [(12, .int (nI (zu_u ((zd_z vx vy (nI k65)) >>> ((nI (i + 1)) &&& 31)) 5))), (11, .int (nI (i + 1))), (10, .int (zd_l vx vy k65 (i + 1))), (8, .int (zd_z vx vy (nI k65))), (9, .int (nI (zd_m vx vy k65))), (7, .int (nI k65)), (4, .int (nI 1)), (5, .int (nI nn)), (6, .int (nI n)), (0, .ref b), (1, .ref bp), (2, .int vx), (3, .int vy)]) hx hb dL_isRead_180 hl (by decide) rfl (fun ls hl => ?_)
                            refine lv_iload hx hb dL_isRead_182 (lv_at hl 2 rfl) ?_
                            refine lv_if_lt (tgt := 201) hx hb dL_isRead_184 (by decide) (fun c_253 => ?_) (fun c_253 => ?_)
                            · exact absurd c_253 (nI_pos (by have := zd_e6 vx vy k65 i; omega))
                            · refine lv_iload hx hb dL_isRead_187 (lv_at hl 0 rfl) ?_
                              refine lv_iload hx hb dL_isRead_189 (lv_at hl 2 rfl) ?_
                              refine lv_icmp_lt (tgt := 201) hx hb dL_isRead_191 (by decide) (fun c_254 => ?_) (fun c_254 => ?_)
                              · have hlt : ¬ zd_e vx vy k65 i ≤ (zu_u ((zd_z vx vy (nI k65)) >>> ((nI (i + 1)) &&& 31)) 5) := Nat.not_le.mpr ((nI_ltI (by have := zu_lt (v := (zd_z vx vy (nI k65)) >>> ((nI (i + 1)) &&& 31)) (n := 5) (by omega); omega) (by have := zd_e6 vx vy k65 i; omega)).mp c_254)
                                refine lv_iload hx hb dL_isRead_201 (lv_at hl 0 rfl) ?_
                                rw [show (nI (zu_u ((zd_z vx vy (nI k65)) >>> ((nI (i + 1)) &&& 31)) 5)) = nI (zd_e vx vy k65 (i + 1)) from by show _ = nI (if _ then _ else _); rw [if_neg hlt]]
                                refine lv_istore (lv' := [(12, .int (nI (zd_e vx vy k65 (i + 1)))), (11, .int (nI (i + 1))), (10, .int (zd_l vx vy k65 (i + 1))), (8, .int (zd_z vx vy (nI k65))), (9, .int (nI (zd_m vx vy k65))), (7, .int (nI k65)), (4, .int (nI 1)), (5, .int (nI nn)), (6, .int (nI n)), (0, .ref b), (1, .ref bp), (2, .int vx), (3, .int vy)]) hx hb dL_isRead_203 hl (by decide) rfl (fun ls hl => ?_)
                                refine lv_iload hx hb dL_isRead_205 (lv_at hl 0 rfl) ?_
                                refine lv_istore (lv' := [(10, .int (nI (zd_e vx vy k65 (i + 1)))), (12, .int (nI (zd_e vx vy k65 (i + 1)))), (11, .int (nI (i + 1))), (8, .int (zd_z vx vy (nI k65))), (9, .int (nI (zd_m vx vy k65))), (7, .int (nI k65)), (4, .int (nI 1)), (5, .int (nI nn)), (6, .int (nI n)), (0, .ref b), (1, .ref bp), (2, .int vx), (3, .int vy)]) hx hb dL_isRead_207 hl (by decide) rfl (fun ls hl => ?_)
                                refine lv_iload hx hb dL_isRead_209 (lv_at hl 6 rfl) ?_
                                refine lv_if_eq (tgt := 248) hx hb dL_isRead_211 (by decide) (fun c_255 => ?_) (fun c_255 => ?_)
                                · exact absurd c_255 (by decide)
                                · refine lv_aload_n hx hb dL_isRead_214 rfl (lv_at hl 9 rfl) ?_
                                  refine lv_bipush (v := (nI 48)) hx hb dL_isRead_215 (by decide) ?_
                                  refine lv_iload hx hb dL_isRead_217 (lv_at hl 1 rfl) ?_
                                  refine lv_iadd hx hb dL_isRead_219 ?_
                                  rw [show (nI 48) + (nI (zd_e vx vy k65 (i + 1))) = (nI (48 + zd_e vx vy k65 (i + 1))) from nI_add 48 _]
                                  refine lv_i2l (v := ((nI (48 + zd_e vx vy k65 (i + 1)))).toInt64) hx hb dL_isRead_220 rfl ?_
                                  have hpb2 : zp b z154 := zp_pd r1 (fun x y1 y2 y3 y4 => s1 x y1 y2 (by omega) (by omega)) (by omega) s2
                                  refine xc_i (xr_V (As := [.long ((nI (48 + zd_e vx vy k65 (i + 1)))).toInt64]) (rest := []) (κ := 16) ⟨hx, hb, hml, hown, hts⟩ (cz_put l O z154 b tb hpb2 (c0 := ((nI (48 + zd_e vx vy k65 (i + 1)))).toInt64) (q := zt_s (zd_m vx vy) k65 + (i + 1)) (by omega) s2 (zc_cs (zd_e6 vx vy k65 (i + 1))).1) (cwV 1 hts gL_isRead_X6_put rfl rfl rfl (by decide +kernel) ⟨Nat.le_of_ble_eq_true rfl, Nat.le_of_ble_eq_true rfl⟩) hK hst hnw hS hW tb (by decide) rfl rfl rfl hl.1 rfl (Nat.le_of_ble_eq_true rfl) dL_isRead_221 ⟨Nat.zero_le _, Nat.zero_le _⟩) hS (fun r_258 M_256 H locs hq_257 hW hS => ?_)
                                  obtain ⟨hq_257a, hq_257b⟩ := hq_257
                                  rw [hq_257a]
                                  refine lv_if_le (tgt := 248) hx hb dL_isRead_224 (by decide) (fun c_259 => ?_) (fun c_259 => ?_)
                                  · exact absurd c_259 (nI_nle (by omega) (by omega))
                                  · refine lv_aload_n hx hb dL_isRead_227 rfl (lv_at hl 10 rfl) ?_
                                    refine lv_bipush (v := (nI 48)) hx hb dL_isRead_228 (by decide) ?_
                                    refine lv_iload hx hb dL_isRead_230 (lv_at hl 1 rfl) ?_
                                    refine lv_iadd hx hb dL_isRead_232 ?_
                                    rw [show (nI 48) + (nI (zd_e vx vy k65 (i + 1))) = (nI (48 + zd_e vx vy k65 (i + 1))) from nI_add 48 _]
                                    refine lv_i2l (v := ((nI (48 + zd_e vx vy k65 (i + 1)))).toInt64) hx hb dL_isRead_233 rfl ?_
                                    have hpc2 : zp bp M_256 := zp_fr (zp_pd (M' := z154) r2 (fun x y1 y2 y3 y4 => s1 x (by omega) (by omega) y1 y2) (by omega) s4) (fun x y1 y2 => hq_257b.2.2.2 x (by omega) (by omega))
                                    refine xc_i (xr_V (As := [.long ((nI (48 + zd_e vx vy k65 (i + 1)))).toInt64]) (rest := []) (κ := 16) ⟨hx, hb, hml, hown, hts⟩ (cz_put l O M_256 bp tp hpc2 (c0 := ((nI (48 + zd_e vx vy k65 (i + 1)))).toInt64) (q := (i + 1)) (by omega) (by rw [hq_257b.2.2.2 _ (by omega) (by omega)]; exact s4) (zc_cs (zd_e6 vx vy k65 (i + 1))).1) (cwV 1 hts gL_isRead_X6_put rfl rfl rfl (by decide +kernel) ⟨Nat.le_of_ble_eq_true rfl, Nat.le_of_ble_eq_true rfl⟩) hK hst hnw hS hW tp (by decide) rfl rfl rfl hl.1 rfl (Nat.le_of_ble_eq_true rfl) dL_isRead_234 ⟨Nat.zero_le _, Nat.zero_le _⟩) hS (fun r_262 M_260 H locs hq_261 hW hS => ?_)
                                    obtain ⟨hq_261a, hq_261b⟩ := hq_261
                                    rw [hq_261a]
                                    refine lv_iload hx hb dL_isRead_237 (lv_at hl 2 rfl) ?_
                                    refine lv_iconst (v := (nI 1)) hx hb dL_isRead_239 (by decide) ?_
                                    refine lv_iadd hx hb dL_isRead_240 ?_
                                    rw [show (nI (i + 1)) + (nI 1) = (nI ((i + 1) + 1)) from nI_add _ 1]
                                    refine lv_icmp_ne (tgt := 248) hx hb dL_isRead_241 (by decide) (fun c_263 => ?_) (fun c_263 => ?_)
                                    · exact absurd c_263 (fun z => z rfl)
                                    · refine lv_iconst (v := (nI 1)) hx hb dL_isRead_244 (by decide) ?_
                                      refine lv_goto (tgt := 249) hx hb dL_isRead_245 (by decide) ?_
                                      refine lv_istore (lv' := [(4, .int (nI 1)), (10, .int (nI (zd_e vx vy k65 (i + 1)))), (12, .int (nI (zd_e vx vy k65 (i + 1)))), (11, .int (nI (i + 1))), (8, .int (zd_z vx vy (nI k65))), (9, .int (nI (zd_m vx vy k65))), (7, .int (nI k65)), (5, .int (nI nn)), (6, .int (nI n)), (0, .ref b), (1, .ref bp), (2, .int vx), (3, .int vy)]) hx hb dL_isRead_249 hl (by decide) rfl (fun ls hl => ?_)
                                      refine lv_iinc (v := (nI ((i + 1) + 1))) (lv' := [(11, .int (nI ((i + 1) + 1))), (4, .int (nI 1)), (10, .int (nI (zd_e vx vy k65 (i + 1)))), (12, .int (nI (zd_e vx vy k65 (i + 1)))), (8, .int (zd_z vx vy (nI k65))), (9, .int (nI (zd_m vx vy k65))), (7, .int (nI k65)), (5, .int (nI nn)), (6, .int (nI n)), (0, .ref b), (1, .ref bp), (2, .int vx), (3, .int vy)]) hx hb dL_isRead_251 hl (k := 3) rfl ((nI_1 (i + 1))) (by decide) rfl (fun ls hl => ?_)
                                      refine lv_goto (tgt := 154) hx hb dL_isRead_254 (by decide) ?_
                                      exact ih154 M_260 _ _ _ ⟨hW, hS, lv_sub hl [0, 2, 4, 5, 6, 1, 7, 8, 9, 10, 11, 12] rfl, (zR2_1 hbc hE154 hk154 (zc_cs (zd_e6 vx vy k65 (i + 1))).2 hq_257b hq_261b)⟩
                              · have hlt : zd_e vx vy k65 i ≤ (zu_u ((zd_z vx vy (nI k65)) >>> ((nI (i + 1)) &&& 31)) 5) := by rcases Nat.lt_or_ge (zu_u ((zd_z vx vy (nI k65)) >>> ((nI (i + 1)) &&& 31)) 5) (zd_e vx vy k65 i) with q | q; exact absurd (nI_lt q (by have := zd_e6 vx vy k65 i; omega)) c_254; exact q
                                refine lv_iload hx hb dL_isRead_194 (lv_at hl 0 rfl) ?_
                                refine lv_iconst (v := (nI 1)) hx hb dL_isRead_196 (by decide) ?_
                                refine lv_iadd hx hb dL_isRead_197 ?_
                                refine lv_goto (tgt := 203) hx hb dL_isRead_198 (by decide) ?_
                                rw [show ((nI (zu_u ((zd_z vx vy (nI k65)) >>> ((nI (i + 1)) &&& 31)) 5)) + (nI 1)) = nI (zd_e vx vy k65 (i + 1)) from by show _ = nI (if _ then _ else _); rw [if_pos hlt]; exact nI_add _ 1]
                                refine lv_istore (lv' := [(12, .int (nI (zd_e vx vy k65 (i + 1)))), (11, .int (nI (i + 1))), (10, .int (zd_l vx vy k65 (i + 1))), (8, .int (zd_z vx vy (nI k65))), (9, .int (nI (zd_m vx vy k65))), (7, .int (nI k65)), (4, .int (nI 1)), (5, .int (nI nn)), (6, .int (nI n)), (0, .ref b), (1, .ref bp), (2, .int vx), (3, .int vy)]) hx hb dL_isRead_203 hl (by decide) rfl (fun ls hl => ?_)
                                refine lv_iload hx hb dL_isRead_205 (lv_at hl 0 rfl) ?_
                                refine lv_istore (lv' := [(10, .int (nI (zd_e vx vy k65 (i + 1)))), (12, .int (nI (zd_e vx vy k65 (i + 1)))), (11, .int (nI (i + 1))), (8, .int (zd_z vx vy (nI k65))), (9, .int (nI (zd_m vx vy k65))), (7, .int (nI k65)), (4, .int (nI 1)), (5, .int (nI nn)), (6, .int (nI n)), (0, .ref b), (1, .ref bp), (2, .int vx), (3, .int vy)]) hx hb dL_isRead_207 hl (by decide) rfl (fun ls hl => ?_)
                                refine lv_iload hx hb dL_isRead_209 (lv_at hl 6 rfl) ?_
                                refine lv_if_eq (tgt := 248) hx hb dL_isRead_211 (by decide) (fun c_264 => ?_) (fun c_264 => ?_)
                                · exact absurd c_264 (by decide)
                                · refine lv_aload_n hx hb dL_isRead_214 rfl (lv_at hl 9 rfl) ?_
                                  refine lv_bipush (v := (nI 48)) hx hb dL_isRead_215 (by decide) ?_
                                  refine lv_iload hx hb dL_isRead_217 (lv_at hl 1 rfl) ?_
                                  refine lv_iadd hx hb dL_isRead_219 ?_
                                  rw [show (nI 48) + (nI (zd_e vx vy k65 (i + 1))) = (nI (48 + zd_e vx vy k65 (i + 1))) from nI_add 48 _]
                                  refine lv_i2l (v := ((nI (48 + zd_e vx vy k65 (i + 1)))).toInt64) hx hb dL_isRead_220 rfl ?_
                                  have hpb2 : zp b z154 := zp_pd r1 (fun x y1 y2 y3 y4 => s1 x y1 y2 (by omega) (by omega)) (by omega) s2
                                  refine xc_i (xr_V (As := [.long ((nI (48 + zd_e vx vy k65 (i + 1)))).toInt64]) (rest := []) (κ := 16) ⟨hx, hb, hml, hown, hts⟩ (cz_put l O z154 b tb hpb2 (c0 := ((nI (48 + zd_e vx vy k65 (i + 1)))).toInt64) (q := zt_s (zd_m vx vy) k65 + (i + 1)) (by omega) s2 (zc_cs (zd_e6 vx vy k65 (i + 1))).1) (cwV 1 hts gL_isRead_X6_put rfl rfl rfl (by decide +kernel) ⟨Nat.le_of_ble_eq_true rfl, Nat.le_of_ble_eq_true rfl⟩) hK hst hnw hS hW tb (by decide) rfl rfl rfl hl.1 rfl (Nat.le_of_ble_eq_true rfl) dL_isRead_221 ⟨Nat.zero_le _, Nat.zero_le _⟩) hS (fun r_267 M_265 H locs hq_266 hW hS => ?_)
                                  obtain ⟨hq_266a, hq_266b⟩ := hq_266
                                  rw [hq_266a]
                                  refine lv_if_le (tgt := 248) hx hb dL_isRead_224 (by decide) (fun c_268 => ?_) (fun c_268 => ?_)
                                  · exact absurd c_268 (nI_nle (by omega) (by omega))
                                  · refine lv_aload_n hx hb dL_isRead_227 rfl (lv_at hl 10 rfl) ?_
                                    refine lv_bipush (v := (nI 48)) hx hb dL_isRead_228 (by decide) ?_
                                    refine lv_iload hx hb dL_isRead_230 (lv_at hl 1 rfl) ?_
                                    refine lv_iadd hx hb dL_isRead_232 ?_
                                    rw [show (nI 48) + (nI (zd_e vx vy k65 (i + 1))) = (nI (48 + zd_e vx vy k65 (i + 1))) from nI_add 48 _]
                                    refine lv_i2l (v := ((nI (48 + zd_e vx vy k65 (i + 1)))).toInt64) hx hb dL_isRead_233 rfl ?_
                                    have hpc2 : zp bp M_265 := zp_fr (zp_pd (M' := z154) r2 (fun x y1 y2 y3 y4 => s1 x (by omega) (by omega) y1 y2) (by omega) s4) (fun x y1 y2 => hq_266b.2.2.2 x (by omega) (by omega))
                                    refine xc_i (xr_V (As := [.long ((nI (48 + zd_e vx vy k65 (i + 1)))).toInt64]) (rest := []) (κ := 16) ⟨hx, hb, hml, hown, hts⟩ (cz_put l O M_265 bp tp hpc2 (c0 := ((nI (48 + zd_e vx vy k65 (i + 1)))).toInt64) (q := (i + 1)) (by omega) (by rw [hq_266b.2.2.2 _ (by omega) (by omega)]; exact s4) (zc_cs (zd_e6 vx vy k65 (i + 1))).1) (cwV 1 hts gL_isRead_X6_put rfl rfl rfl (by decide +kernel) ⟨Nat.le_of_ble_eq_true rfl, Nat.le_of_ble_eq_true rfl⟩) hK hst hnw hS hW tp (by decide) rfl rfl rfl hl.1 rfl (Nat.le_of_ble_eq_true rfl) dL_isRead_234 ⟨Nat.zero_le _, Nat.zero_le _⟩) hS (fun r_271 M_269 H locs hq_270 hW hS => ?_)
                                    obtain ⟨hq_270a, hq_270b⟩ := hq_270
                                    rw [hq_270a]
                                    refine lv_iload hx hb dL_isRead_237 (lv_at hl 2 rfl) ?_
                                    refine lv_iconst (v := (nI 1)) hx hb dL_isRead_239 (by decide) ?_
                                    refine lv_iadd hx hb dL_isRead_240 ?_
                                    rw [show (nI (i + 1)) + (nI 1) = (nI ((i + 1) + 1)) from nI_add _ 1]
                                    refine lv_icmp_ne (tgt := 248) hx hb dL_isRead_241 (by decide) (fun c_272 => ?_) (fun c_272 => ?_)
                                    · exact absurd c_272 (fun z => z rfl)
                                    · refine lv_iconst (v := (nI 1)) hx hb dL_isRead_244 (by decide) ?_
                                      refine lv_goto (tgt := 249) hx hb dL_isRead_245 (by decide) ?_
                                      refine lv_istore (lv' := [(4, .int (nI 1)), (10, .int (nI (zd_e vx vy k65 (i + 1)))), (12, .int (nI (zd_e vx vy k65 (i + 1)))), (11, .int (nI (i + 1))), (8, .int (zd_z vx vy (nI k65))), (9, .int (nI (zd_m vx vy k65))), (7, .int (nI k65)), (5, .int (nI nn)), (6, .int (nI n)), (0, .ref b), (1, .ref bp), (2, .int vx), (3, .int vy)]) hx hb dL_isRead_249 hl (by decide) rfl (fun ls hl => ?_)
                                      refine lv_iinc (v := (nI ((i + 1) + 1))) (lv' := [(11, .int (nI ((i + 1) + 1))), (4, .int (nI 1)), (10, .int (nI (zd_e vx vy k65 (i + 1)))), (12, .int (nI (zd_e vx vy k65 (i + 1)))), (8, .int (zd_z vx vy (nI k65))), (9, .int (nI (zd_m vx vy k65))), (7, .int (nI k65)), (5, .int (nI nn)), (6, .int (nI n)), (0, .ref b), (1, .ref bp), (2, .int vx), (3, .int vy)]) hx hb dL_isRead_251 hl (k := 3) rfl ((nI_1 (i + 1))) (by decide) rfl (fun ls hl => ?_)
                                      refine lv_goto (tgt := 154) hx hb dL_isRead_254 (by decide) ?_
                                      exact ih154 M_269 _ _ _ ⟨hW, hS, lv_sub hl [0, 2, 4, 5, 6, 1, 7, 8, 9, 10, 11, 12] rfl, (zR2_1 hbc hE154 hk154 (zc_cs (zd_e6 vx vy k65 (i + 1))).2 hq_266b hq_270b)⟩
                          · exact absurd (nI_pos' (by have := zd_e6 vx vy k65 i; omega)) c_249
    · refine lv_iload hx hb dL_isRead_40 (lv_at hl 2 rfl) ?_
      refine lv_if_eq (tgt := 60) hx hb dL_isRead_42 (by decide) (fun c_273 => ?_) (fun c_273 => ?_)
      · exact absurd c_273 (by decide)
      · refine lv_aload_n hx hb dL_isRead_45 rfl (lv_at hl 3 rfl) ?_
        refine lv_ldc2 (v := 48) hx hb hown (hts (.constantLong RL 25 (48)) (List.mem_of_getElem? (i := 1) (by decide +kernel))) dL_isRead_46 ?_
        refine xc_i (xr_V (As := [.long (48 : Int64)]) (rest := []) (κ := 16) ⟨hx, hb, hml, hown, hts⟩ (cz_put l O M_1 b tb hR0.1 (c0 := 48) (q := 0) (by omega) (by obtain ⟨-, -, -, -, L9, l1, -, -, l3, -⟩ := hR0; rw [l1 rfl] at l3; exact l3) zc_c0.1) (cwV 1 hts gL_isRead_X6_put rfl rfl rfl (by decide +kernel) ⟨Nat.le_of_ble_eq_true rfl, Nat.le_of_ble_eq_true rfl⟩) hK hst hnw hS hW tb (by decide) rfl rfl rfl hl.1 rfl (Nat.le_of_ble_eq_true rfl) dL_isRead_49 ⟨Nat.zero_le _, Nat.zero_le _⟩) hS (fun r_276 M_274 H locs hq_275 hW hS => ?_)
        obtain ⟨hq_275a, hq_275b⟩ := hq_275
        rw [hq_275a]
        refine lv_iconst (v := (nI 1)) hx hb dL_isRead_52 (by decide) ?_
        refine lv_icmp_ne (tgt := 60) hx hb dL_isRead_53 (by decide) (fun c_277 => ?_) (fun c_277 => ?_)
        · exact absurd c_277 (fun z => z rfl)
        · refine lv_iconst (v := (nI 1)) hx hb dL_isRead_56 (by decide) ?_
          refine lv_goto (tgt := 61) hx hb dL_isRead_57 (by decide) ?_
          exact W.zret (v := (nI 1)) hx hb hr rfl (fun t ht hWm => ⟨⟨(nI 1), M_274, rfl, ⟨rfl, (by
              have o2 : ∀ x, x ≠ b + 825 → x ≠ b + 826 → M_274 x = M x := fun x y1 y2 => by rw [hq_275b.2.2.2 x y1 y2, o1 x y1]
              exact zL_ask (zL_up hL) (zp_pd hpb (fun x y1 y2 _ _ => o2 x y1 y2) (by omega) hq_275b.1) (zp_fr hpc (fun x y1 y2 => o2 x (by omega) (by omega))) (fun x hx => o2 x (by omega) (by omega)))⟩, xw_end ht hW⟩, hS.F ht⟩) hS.2.2 dL_isRead_61
