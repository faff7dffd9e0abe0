/-! THE LAW: isStep -/

set_option maxHeartbeats 4000000 in
set_option maxRecDepth 100000 in
/-- isStep(o, p, x, y) -/
theorem c_L_isStep (l : Launch) {G : va_G} {g : Nat → ClassId} {t0 τ : Nat → Nat} {A : Nat → Prop} (O : xk_O τ A) (M : xm_T) (b bp NN : Nat) (tb : τ b = 16) (tp : τ bp = 16) (hbc : b + 827 ≤ bp) (hL : zL b bp NN M) (hN : NN ≤ 60) (vx vy : Int32) : Met l yL_isStep wsL_isStep ({ frames := 7, cells := 0, slots := 0, locals := 240 }) (va_Pc [.ref b, .ref bp, .int vx, .int vy] (xS_t G g t0 τ A M)) (va_Qi (fun r M' => r = nI 1 ∧ zL b bp (NN + 1) M') (fun M' t => xw_D G g τ M' t.heap) A) 0 0 A := by
  refine Met.ofW (cc := cL_isStep) (maxL := 12) (ret := (some .boolean)) (by decide) rfl ?_
  intro p e s m args below meth c s₁ B hml hv
  obtain ⟨rfl, hW, hK, hst, hnw⟩ := hv
  have hx := B.exec
  have hb := B.bytes
  have hr := B.returns
  have hts := atoms_spec (ws := wsL_isStep) B.pre
  have hown : s.vm.findClass RL = some m.cls := findClass_of_methodNamed B.named
  have hlocks := B.notSynchronized
  have hS : va_S A s.heap s.heap [] := va_S.rf
  have hl := lv_entry ([.ref b, .ref bp, .int vx, .int vy]) (n := 12) (Nat.le_of_ble_eq_true rfl)
  rw [lg_entry_eq]
  generalize (lg_sl ([.ref b, .ref bp, .int vx, .int vy]) ++ List.replicate (12 - (lg_sl ([.ref b, .ref bp, .int vx, .int vy])).length) Slot.unset).toArray = ls at hl ⊢
  have hl : lv_has ls 12 [(0, .ref b), (1, .ref bp), (2, .int vx), (3, .int vy)] := hl
  obtain ⟨hpb, hpc, ⟨nn, TT, hT, hz⟩, hg, hs⟩ := id hL
  have hnn := hz.n
  refine lv_iload_n hx hb dL_isStep_0 rfl (lv_at hl 2 rfl) ?_
  refine lv_iconst (v := (nI 4)) hx hb dL_isStep_1 (by decide) ?_
  refine lv_ishr hx hb dL_isStep_2 ?_
  refine lv_istore (lv' := [(4, .int (vx >>> ((nI 4) &&& 31))), (0, .ref b), (1, .ref bp), (2, .int vx), (3, .int vy)]) hx hb dL_isStep_3 hl (by decide) rfl (fun ls hl => ?_)
  generalize (vx >>> ((nI 4) &&& 31)) = vz at hl
  refine lv_iload hx hb dL_isStep_5 (lv_at hl 0 rfl) ?_
  refine lv_bipush (v := (nI 6)) hx hb dL_isStep_7 (by decide) ?_
  refine xc_i (xr_S (As := [.int vz, .int (nI 6)]) (rest := []) ⟨hx, hb, hml, hown, hts⟩ (c_L_up l O M vz (n := 6) (by omega) (by omega)) (va_cwS 2 hts gL_isStep_L_up rfl rfl rfl (by decide +kernel) ⟨Nat.le_of_ble_eq_true rfl, Nat.le_of_ble_eq_true rfl⟩) hK hst hnw hS hW rfl hl.1 rfl (Nat.le_of_ble_eq_true rfl) dL_isStep_9 ⟨Nat.zero_le _, Nat.zero_le _⟩) hS (fun r_3 M_1 H locs hq_2 hW hS => ?_)
  obtain ⟨hq_2a, hq_2b⟩ := hq_2
  rw [hq_2b] at hW
  rw [hq_2a]
  obtain ⟨w, hw, ew⟩ : ∃ q, q < 6 ∧ zu_u vz 6 = q := ⟨_, zu_lt (by omega), rfl⟩
  rw [ew]
  refine lv_istore (lv' := [(5, .int (nI w)), (4, .int vz), (0, .ref b), (1, .ref bp), (2, .int vx), (3, .int vy)]) hx hb dL_isStep_12 hl (by decide) rfl (fun ls hl => ?_)
  refine lv_iload_n hx hb dL_isStep_14 rfl (lv_at hl 4 rfl) ?_
  refine lv_bipush (v := (nI 18)) hx hb dL_isStep_15 (by decide) ?_
  refine xc_i (xr_S (As := [.int vx, .int (nI 18)]) (rest := []) ⟨hx, hb, hml, hown, hts⟩ (c_L_up l O M vx (n := 18) (by omega) (by omega)) (va_cwS 2 hts gL_isStep_L_up rfl rfl rfl (by decide +kernel) ⟨Nat.le_of_ble_eq_true rfl, Nat.le_of_ble_eq_true rfl⟩) hK hst hnw hS hW rfl hl.1 rfl (Nat.le_of_ble_eq_true rfl) dL_isStep_17 ⟨Nat.zero_le _, Nat.zero_le _⟩) hS (fun r_6 M_4 H locs hq_5 hW hS => ?_)
  obtain ⟨hq_5a, hq_5b⟩ := hq_5
  rw [hq_5b] at hW
  rw [hq_5a]
  obtain ⟨u, hu, eu⟩ : ∃ q, q < 18 ∧ zu_u vx 18 = q := ⟨_, zu_lt (by omega), rfl⟩
  rw [eu]
  rcases (show u = 0 ∨ u = 1 ∨ u = 2 ∨ u = 3 ∨ u = 4 ∨ u = 5 ∨ u = 6 ∨ u = 7 ∨ u = 8 ∨ u = 9 ∨ 10 ≤ u by omega) with rfl | rfl | rfl | rfl | rfl | rfl | rfl | rfl | rfl | rfl | hu10
  · refine lv_tableIn (off := 56) (tgt := 76) hx hb dL_isStep_20 (by decide) (by decide) (by decide) (by decide) ?_
    refine lv_iload hx hb dL_isStep_76 (lv_at hl 1 rfl) ?_
    refine lv_iconst (v := (nI 3)) hx hb dL_isStep_78 (by decide) ?_
    refine xc_i (xr_S (As := [.int vz, .int (nI 3)]) (rest := []) ⟨hx, hb, hml, hown, hts⟩ (c_L_up l O M vz (n := 3) (by omega) (by omega)) (va_cwS 2 hts gL_isStep_L_up rfl rfl rfl (by decide +kernel) ⟨Nat.le_of_ble_eq_true rfl, Nat.le_of_ble_eq_true rfl⟩) hK hst hnw hS hW rfl hl.1 rfl (Nat.le_of_ble_eq_true rfl) dL_isStep_79 ⟨Nat.zero_le _, Nat.zero_le _⟩) hS (fun r_9 M_7 H locs hq_8 hW hS => ?_)
    obtain ⟨hq_8a, hq_8b⟩ := hq_8
    rw [hq_8b] at hW
    rw [hq_8a]
    obtain ⟨u3, hu3, eu3⟩ : ∃ q, q < 3 ∧ zu_u vz 3 = q := ⟨_, zu_lt (by omega), rfl⟩
    rw [eu3]
    rcases (show u3 = 0 ∨ u3 = 1 ∨ u3 = 2 by omega) with rfl | rfl | rfl
    · refine lv_istore (lv' := [(6, .int (nI 0)), (5, .int (nI w)), (4, .int vz), (0, .ref b), (1, .ref bp), (2, .int vx), (3, .int vy)]) hx hb dL_isStep_82 hl (by decide) rfl (fun ls hl => ?_)
      refine lv_iload hx hb dL_isStep_84 (lv_at hl 0 rfl) ?_
      refine lv_if_ne (tgt := 100) hx hb dL_isStep_86 (by decide) (fun c_10 => ?_) (fun c_10 => ?_)
      · exact absurd rfl c_10
      · refine lv_iconst (v := (nI 1)) hx hb dL_isStep_89 (by decide) ?_
        refine lv_iload_n hx hb dL_isStep_90 rfl (lv_at hl 6 rfl) ?_
        refine lv_bipush (v := (nI 6)) hx hb dL_isStep_91 (by decide) ?_
        refine xc_i (xr_S (As := [.int vy, .int (nI 6)]) (rest := [.int (nI 1)]) ⟨hx, hb, hml, hown, hts⟩ (c_L_up l O M vy (n := 6) (by omega) (by omega)) (va_cwS 2 hts gL_isStep_L_up rfl rfl rfl (by decide +kernel) ⟨Nat.le_of_ble_eq_true rfl, Nat.le_of_ble_eq_true rfl⟩) hK hst hnw hS hW rfl hl.1 rfl (Nat.le_of_ble_eq_true rfl) dL_isStep_93 ⟨Nat.zero_le _, Nat.zero_le _⟩) hS (fun r_13 M_11 H locs hq_12 hW hS => ?_)
        obtain ⟨hq_12a, hq_12b⟩ := hq_12
        rw [hq_12b] at hW
        rw [hq_12a]
        obtain ⟨q6, hq6, eq6⟩ : ∃ q, q < 6 ∧ zu_u vy 6 = q := ⟨_, zu_lt (by omega), rfl⟩
        rw [eq6]
        refine lv_iadd hx hb dL_isStep_96 ?_
        rw [show (nI 1) + (nI q6) = (nI (1 + q6)) from nI_add 1 q6]
        refine lv_goto (tgt := 135) hx hb dL_isStep_97 (by decide) ?_
        refine lv_istore (lv' := [(7, .int (nI (1 + q6))), (6, .int (nI 0)), (5, .int (nI w)), (4, .int vz), (0, .ref b), (1, .ref bp), (2, .int vx), (3, .int vy)]) hx hb dL_isStep_135 hl (by decide) rfl (fun ls hl => ?_)
        refine lv_aload_n hx hb dL_isStep_137 rfl (lv_at hl 4 rfl) ?_
        refine lv_iload hx hb dL_isStep_138 (lv_at hl 1 rfl) ?_
        refine xc_i (xr_V (As := [.int (nI 0)]) (rest := []) (κ := 16) ⟨hx, hb, hml, hown, hts⟩ (cz_count l O M b tb (jj := 0) (by omega)) (cwV 1 hts gL_isStep_X6_count rfl rfl rfl (by decide +kernel) ⟨Nat.le_of_ble_eq_true rfl, Nat.le_of_ble_eq_true rfl⟩) hK hst hnw hS hW tb (by decide) rfl rfl rfl hl.1 rfl (Nat.le_of_ble_eq_true rfl) dL_isStep_140 ⟨Nat.zero_le _, Nat.zero_le _⟩) hS (fun r_16 M_14 H locs hq_15 hW hS => ?_)
        obtain ⟨hq_15a, hq_15b⟩ := hq_15
        rw [hq_15b] at hW
        rw [hq_15a]
        rw [show (zf_co (b + 1) M 0) = (M (b + 2) 0) from rfl]
        refine lv_istore (lv' := [(8, .int (M (b + 2) 0)), (7, .int (nI (1 + q6))), (6, .int (nI 0)), (5, .int (nI w)), (4, .int vz), (0, .ref b), (1, .ref bp), (2, .int vx), (3, .int vy)]) hx hb dL_isStep_143 hl (by decide) rfl (fun ls hl => ?_)
        refine lv_aload_n hx hb dL_isStep_145 rfl (lv_at hl 5 rfl) ?_
        refine lv_iload hx hb dL_isStep_146 (lv_at hl 2 rfl) ?_
        refine lv_iload hx hb dL_isStep_148 (lv_at hl 1 rfl) ?_
        refine xc_i (xr_V (As := [.int (nI 0), .int (nI (1 + q6))]) (rest := []) (κ := 16) ⟨hx, hb, hml, hown, hts⟩ (cz_set l O M b tb hpb (sx := 0) (v := (1 + q6)) (by omega) (show ¬ nI ((1 + q6)) < nI 1 from nI_nlt (by omega) (by omega)) (show nI ((1 + q6)) ≤ nI 6 from nI_le (by omega) (by omega))) (cwV 2 hts gL_isStep_X6_set rfl rfl rfl (by decide +kernel) ⟨Nat.le_of_ble_eq_true rfl, Nat.le_of_ble_eq_true rfl⟩) hK hst hnw hS hW tb (by decide) rfl rfl rfl hl.1 rfl (Nat.le_of_ble_eq_true rfl) dL_isStep_150 ⟨Nat.zero_le _, Nat.zero_le _⟩) hS (fun r_19 M_17 H locs hq_18 hW hS => ?_)
        obtain ⟨hq_18a, hq1, -⟩ := hq_18
        rw [hq_18a]
        have hpc1 : zp bp M_17 := zp_fr hpc (fun x z1 z2 => hq1.2.1 x (by omega))
        refine lv_iload hx hb dL_isStep_153 (lv_at hl 0 rfl) ?_
        refine lv_icmp_ne (tgt := 186) hx hb dL_isStep_155 (by decide) (fun c_20 => ?_) (fun c_20 => ?_)
        · exact absurd c_20 (fun z => z rfl)
        · refine lv_aload_n hx hb dL_isStep_158 rfl (lv_at hl 6 rfl) ?_
          refine lv_iload hx hb dL_isStep_159 (lv_at hl 2 rfl) ?_
          refine lv_iload hx hb dL_isStep_161 (lv_at hl 1 rfl) ?_
          refine xc_i (xr_V (As := [.int (nI 0), .int (nI (1 + q6))]) (rest := []) (κ := 16) ⟨hx, hb, hml, hown, hts⟩ (cz_set l O M_17 bp tp hpc1 (sx := 0) (v := (1 + q6)) (by omega) (show ¬ nI ((1 + q6)) < nI 1 from nI_nlt (by omega) (by omega)) (show nI ((1 + q6)) ≤ nI 6 from nI_le (by omega) (by omega))) (cwV 2 hts gL_isStep_X6_set rfl rfl rfl (by decide +kernel) ⟨Nat.le_of_ble_eq_true rfl, Nat.le_of_ble_eq_true rfl⟩) hK hst hnw hS hW tp (by decide) rfl rfl rfl hl.1 rfl (Nat.le_of_ble_eq_true rfl) dL_isStep_163 ⟨Nat.zero_le _, Nat.zero_le _⟩) hS (fun r_23 M_21 H locs hq_22 hW hS => ?_)
          obtain ⟨hq_22a, hq2, -⟩ := hq_22
          rw [hq_22a, show M_17 (bp + 2) 0 = (M (b + 2) 0) from (by rw [hq1.2.1 _ (by omega)]; exact (congrFun (hg 1 (by omega)) 0).symm)]
          refine lv_iload hx hb dL_isStep_166 (lv_at hl 0 rfl) ?_
          refine lv_icmp_ne (tgt := 186) hx hb dL_isStep_168 (by decide) (fun c_24 => ?_) (fun c_24 => ?_)
          · exact absurd c_24 (fun z => z rfl)
          · refine lv_aload_n hx hb dL_isStep_171 rfl (lv_at hl 5 rfl) ?_
            refine lv_iload hx hb dL_isStep_172 (lv_at hl 2 rfl) ?_
            refine xc_i (xr_V (As := [.int (nI 0)]) (rest := []) (κ := 16) ⟨hx, hb, hml, hown, hts⟩ (cz_count l O M_21 b tb (jj := 0) (by omega)) (cwV 1 hts gL_isStep_X6_count rfl rfl rfl (by decide +kernel) ⟨Nat.le_of_ble_eq_true rfl, Nat.le_of_ble_eq_true rfl⟩) hK hst hnw hS hW tb (by decide) rfl rfl rfl hl.1 rfl (Nat.le_of_ble_eq_true rfl) dL_isStep_174 ⟨Nat.zero_le _, Nat.zero_le _⟩) hS (fun r_27 M_25 H locs hq_26 hW hS => ?_)
            obtain ⟨hq_26a, hq_26b⟩ := hq_26
            rw [hq_26b] at hW
            rw [hq_26a]
            rw [show (zf_co (b + 1) M_21 0) = (nI ((1 + q6))) from (by show M_21 (b + 2) 0 = _; rw [hq2.2.1 _ (by omega), hq1.2.2.1 _ (by omega) (by omega)]; exact xu_s _ _ _ _)]
            refine lv_iload hx hb dL_isStep_177 (lv_at hl 1 rfl) ?_
            refine lv_icmp_ne (tgt := 186) hx hb dL_isStep_179 (by decide) (fun c_28 => ?_) (fun c_28 => ?_)
            · exact absurd c_28 (fun z => z rfl)
            · refine lv_iconst (v := (nI 1)) hx hb dL_isStep_182 (by decide) ?_
              refine lv_goto (tgt := 187) hx hb dL_isStep_183 (by decide) ?_
              exact W.zret (v := (nI 1)) hx hb hr rfl (fun t ht hWm => ⟨⟨(nI 1), M_21, rfl, ⟨rfl, zL_chg hbc hL hq1 hq2 (((zZ_rf (zL_g1 hbc hg hq1)).up 1 (by omega) (by omega) (by omega) 0 rfl).1) ⟨nn, TT, by omega, (zi_set hz (fun h => absurd h (by decide))).mono (Nat.le_refl _) (by omega)⟩⟩, xw_end ht hW⟩, hS.F ht⟩) hS.2.2 dL_isStep_187
    · refine lv_istore (lv' := [(6, .int (nI 1)), (5, .int (nI w)), (4, .int vz), (0, .ref b), (1, .ref bp), (2, .int vx), (3, .int vy)]) hx hb dL_isStep_82 hl (by decide) rfl (fun ls hl => ?_)
      refine lv_iload hx hb dL_isStep_84 (lv_at hl 0 rfl) ?_
      refine lv_if_ne (tgt := 100) hx hb dL_isStep_86 (by decide) (fun c_29 => ?_) (fun c_29 => ?_)
      · refine lv_iload hx hb dL_isStep_100 (lv_at hl 0 rfl) ?_
        refine lv_iconst (v := (nI 1)) hx hb dL_isStep_102 (by decide) ?_
        refine lv_icmp_ne (tgt := 115) hx hb dL_isStep_103 (by decide) (fun c_30 => ?_) (fun c_30 => ?_)
        · exact absurd rfl c_30
        · refine lv_iload_n hx hb dL_isStep_106 rfl (lv_at hl 6 rfl) ?_
          refine lv_bipush (v := (nI 21)) hx hb dL_isStep_107 (by decide) ?_
          refine xc_i (xr_S (As := [.int vy, .int (nI 21)]) (rest := []) ⟨hx, hb, hml, hown, hts⟩ (c_L_up l O M vy (n := 21) (by omega) (by omega)) (va_cwS 2 hts gL_isStep_L_up rfl rfl rfl (by decide +kernel) ⟨Nat.le_of_ble_eq_true rfl, Nat.le_of_ble_eq_true rfl⟩) hK hst hnw hS hW rfl hl.1 rfl (Nat.le_of_ble_eq_true rfl) dL_isStep_109 ⟨Nat.zero_le _, Nat.zero_le _⟩) hS (fun r_33 M_31 H locs hq_32 hW hS => ?_)
          obtain ⟨hq_32a, hq_32b⟩ := hq_32
          rw [hq_32b] at hW
          rw [hq_32a]
          obtain ⟨q21, hq21, eq21⟩ : ∃ q, q < 21 ∧ zu_u vy 21 = q := ⟨_, zu_lt (by omega), rfl⟩
          rw [eq21]
          refine lv_goto (tgt := 135) hx hb dL_isStep_112 (by decide) ?_
          refine lv_istore (lv' := [(7, .int (nI q21)), (6, .int (nI 1)), (5, .int (nI w)), (4, .int vz), (0, .ref b), (1, .ref bp), (2, .int vx), (3, .int vy)]) hx hb dL_isStep_135 hl (by decide) rfl (fun ls hl => ?_)
          refine lv_aload_n hx hb dL_isStep_137 rfl (lv_at hl 4 rfl) ?_
          refine lv_iload hx hb dL_isStep_138 (lv_at hl 1 rfl) ?_
          refine xc_i (xr_V (As := [.int (nI 1)]) (rest := []) (κ := 16) ⟨hx, hb, hml, hown, hts⟩ (cz_count l O M b tb (jj := 1) (by omega)) (cwV 1 hts gL_isStep_X6_count rfl rfl rfl (by decide +kernel) ⟨Nat.le_of_ble_eq_true rfl, Nat.le_of_ble_eq_true rfl⟩) hK hst hnw hS hW tb (by decide) rfl rfl rfl hl.1 rfl (Nat.le_of_ble_eq_true rfl) dL_isStep_140 ⟨Nat.zero_le _, Nat.zero_le _⟩) hS (fun r_36 M_34 H locs hq_35 hW hS => ?_)
          obtain ⟨hq_35a, hq_35b⟩ := hq_35
          rw [hq_35b] at hW
          rw [hq_35a]
          rw [show (zf_co (b + 1) M 1) = (M (b + 2) 1) from rfl]
          refine lv_istore (lv' := [(8, .int (M (b + 2) 1)), (7, .int (nI q21)), (6, .int (nI 1)), (5, .int (nI w)), (4, .int vz), (0, .ref b), (1, .ref bp), (2, .int vx), (3, .int vy)]) hx hb dL_isStep_143 hl (by decide) rfl (fun ls hl => ?_)
          refine lv_aload_n hx hb dL_isStep_145 rfl (lv_at hl 5 rfl) ?_
          refine lv_iload hx hb dL_isStep_146 (lv_at hl 2 rfl) ?_
          refine lv_iload hx hb dL_isStep_148 (lv_at hl 1 rfl) ?_
          refine xc_i (xr_V (As := [.int (nI 1), .int (nI q21)]) (rest := []) (κ := 16) ⟨hx, hb, hml, hown, hts⟩ (cz_set l O M b tb hpb (sx := 1) (v := q21) (by omega) (nI_pos (by omega)) (show nI (q21) ≤ nI 20 from nI_le (by omega) (by omega))) (cwV 2 hts gL_isStep_X6_set rfl rfl rfl (by decide +kernel) ⟨Nat.le_of_ble_eq_true rfl, Nat.le_of_ble_eq_true rfl⟩) hK hst hnw hS hW tb (by decide) rfl rfl rfl hl.1 rfl (Nat.le_of_ble_eq_true rfl) dL_isStep_150 ⟨Nat.zero_le _, Nat.zero_le _⟩) hS (fun r_39 M_37 H locs hq_38 hW hS => ?_)
          obtain ⟨hq_38a, hq1, -⟩ := hq_38
          rw [hq_38a]
          have hpc1 : zp bp M_37 := zp_fr hpc (fun x z1 z2 => hq1.2.1 x (by omega))
          refine lv_iload hx hb dL_isStep_153 (lv_at hl 0 rfl) ?_
          refine lv_icmp_ne (tgt := 186) hx hb dL_isStep_155 (by decide) (fun c_40 => ?_) (fun c_40 => ?_)
          · exact absurd c_40 (fun z => z rfl)
          · refine lv_aload_n hx hb dL_isStep_158 rfl (lv_at hl 6 rfl) ?_
            refine lv_iload hx hb dL_isStep_159 (lv_at hl 2 rfl) ?_
            refine lv_iload hx hb dL_isStep_161 (lv_at hl 1 rfl) ?_
            refine xc_i (xr_V (As := [.int (nI 1), .int (nI q21)]) (rest := []) (κ := 16) ⟨hx, hb, hml, hown, hts⟩ (cz_set l O M_37 bp tp hpc1 (sx := 1) (v := q21) (by omega) (nI_pos (by omega)) (show nI (q21) ≤ nI 20 from nI_le (by omega) (by omega))) (cwV 2 hts gL_isStep_X6_set rfl rfl rfl (by decide +kernel) ⟨Nat.le_of_ble_eq_true rfl, Nat.le_of_ble_eq_true rfl⟩) hK hst hnw hS hW tp (by decide) rfl rfl rfl hl.1 rfl (Nat.le_of_ble_eq_true rfl) dL_isStep_163 ⟨Nat.zero_le _, Nat.zero_le _⟩) hS (fun r_43 M_41 H locs hq_42 hW hS => ?_)
            obtain ⟨hq_42a, hq2, -⟩ := hq_42
            rw [hq_42a, show M_37 (bp + 2) 1 = (M (b + 2) 1) from (by rw [hq1.2.1 _ (by omega)]; exact (congrFun (hg 1 (by omega)) 1).symm)]
            refine lv_iload hx hb dL_isStep_166 (lv_at hl 0 rfl) ?_
            refine lv_icmp_ne (tgt := 186) hx hb dL_isStep_168 (by decide) (fun c_44 => ?_) (fun c_44 => ?_)
            · exact absurd c_44 (fun z => z rfl)
            · refine lv_aload_n hx hb dL_isStep_171 rfl (lv_at hl 5 rfl) ?_
              refine lv_iload hx hb dL_isStep_172 (lv_at hl 2 rfl) ?_
              refine xc_i (xr_V (As := [.int (nI 1)]) (rest := []) (κ := 16) ⟨hx, hb, hml, hown, hts⟩ (cz_count l O M_41 b tb (jj := 1) (by omega)) (cwV 1 hts gL_isStep_X6_count rfl rfl rfl (by decide +kernel) ⟨Nat.le_of_ble_eq_true rfl, Nat.le_of_ble_eq_true rfl⟩) hK hst hnw hS hW tb (by decide) rfl rfl rfl hl.1 rfl (Nat.le_of_ble_eq_true rfl) dL_isStep_174 ⟨Nat.zero_le _, Nat.zero_le _⟩) hS (fun r_47 M_45 H locs hq_46 hW hS => ?_)
              obtain ⟨hq_46a, hq_46b⟩ := hq_46
              rw [hq_46b] at hW
              rw [hq_46a]
              rw [show (zf_co (b + 1) M_41 1) = (nI (q21)) from (by show M_41 (b + 2) 1 = _; rw [hq2.2.1 _ (by omega), hq1.2.2.1 _ (by omega) (by omega)]; exact xu_s _ _ _ _)]
              refine lv_iload hx hb dL_isStep_177 (lv_at hl 1 rfl) ?_
              refine lv_icmp_ne (tgt := 186) hx hb dL_isStep_179 (by decide) (fun c_48 => ?_) (fun c_48 => ?_)
              · exact absurd c_48 (fun z => z rfl)
              · refine lv_iconst (v := (nI 1)) hx hb dL_isStep_182 (by decide) ?_
                refine lv_goto (tgt := 187) hx hb dL_isStep_183 (by decide) ?_
                exact W.zret (v := (nI 1)) hx hb hr rfl (fun t ht hWm => ⟨⟨(nI 1), M_41, rfl, ⟨rfl, zL_chg hbc hL hq1 hq2 (((zZ_rf (zL_g1 hbc hg hq1)).up 1 (by omega) (by omega) (by omega) 1 rfl).1) ⟨nn, TT, by omega, (zi_set hz (fun _ => ⟨q21, by omega, rfl⟩)).mono (Nat.le_refl _) (by omega)⟩⟩, xw_end ht hW⟩, hS.F ht⟩) hS.2.2 dL_isStep_187
      · exact absurd c_29 (by decide)
    · refine lv_istore (lv' := [(6, .int (nI 2)), (5, .int (nI w)), (4, .int vz), (0, .ref b), (1, .ref bp), (2, .int vx), (3, .int vy)]) hx hb dL_isStep_82 hl (by decide) rfl (fun ls hl => ?_)
      refine lv_iload hx hb dL_isStep_84 (lv_at hl 0 rfl) ?_
      refine lv_if_ne (tgt := 100) hx hb dL_isStep_86 (by decide) (fun c_49 => ?_) (fun c_49 => ?_)
      · refine lv_iload hx hb dL_isStep_100 (lv_at hl 0 rfl) ?_
        refine lv_iconst (v := (nI 1)) hx hb dL_isStep_102 (by decide) ?_
        refine lv_icmp_ne (tgt := 115) hx hb dL_isStep_103 (by decide) (fun c_50 => ?_) (fun c_50 => ?_)
        · refine lv_iload_n hx hb dL_isStep_115 rfl (lv_at hl 6 rfl) ?_
          refine lv_iload hx hb dL_isStep_116 (lv_at hl 2 rfl) ?_
          refine lv_iconst (v := (nI 2)) hx hb dL_isStep_118 (by decide) ?_
          refine xc_i (xr_S (As := [.int vz, .int (nI 2)]) (rest := [.int vy]) ⟨hx, hb, hml, hown, hts⟩ (c_L_up l O M vz (n := 2) (by omega) (by omega)) (va_cwS 2 hts gL_isStep_L_up rfl rfl rfl (by decide +kernel) ⟨Nat.le_of_ble_eq_true rfl, Nat.le_of_ble_eq_true rfl⟩) hK hst hnw hS hW rfl hl.1 rfl (Nat.le_of_ble_eq_true rfl) dL_isStep_119 ⟨Nat.zero_le _, Nat.zero_le _⟩) hS (fun r_53 M_51 H locs hq_52 hW hS => ?_)
          obtain ⟨hq_52a, hq_52b⟩ := hq_52
          rw [hq_52b] at hW
          rw [hq_52a]
          obtain ⟨q2, hq2, eq2⟩ : ∃ q, q < 2 ∧ zu_u vz 2 = q := ⟨_, zu_lt (by omega), rfl⟩
          rw [eq2]
          refine lv_if_ne (tgt := 130) hx hb dL_isStep_122 (by decide) (fun c_54 => ?_) (fun c_54 => ?_)
          · refine lv_bipush (v := (nI 12)) hx hb dL_isStep_130 (by decide) ?_
            refine xc_i (xr_S (As := [.int vy, .int (nI 12)]) (rest := []) ⟨hx, hb, hml, hown, hts⟩ (c_L_up l O M vy (n := 12) (by omega) (by omega)) (va_cwS 2 hts gL_isStep_L_up rfl rfl rfl (by decide +kernel) ⟨Nat.le_of_ble_eq_true rfl, Nat.le_of_ble_eq_true rfl⟩) hK hst hnw hS hW rfl hl.1 rfl (Nat.le_of_ble_eq_true rfl) dL_isStep_132 ⟨Nat.zero_le _, Nat.zero_le _⟩) hS (fun r_57 M_55 H locs hq_56 hW hS => ?_)
            obtain ⟨hq_56a, hq_56b⟩ := hq_56
            rw [hq_56b] at hW
            rw [hq_56a]
            obtain ⟨q61, hq61, eq61⟩ : ∃ q, q < 12 ∧ zu_u vy 12 = q := ⟨_, zu_lt (by omega), rfl⟩
            rw [eq61]
            refine lv_istore (lv' := [(7, .int (nI q61)), (6, .int (nI 2)), (5, .int (nI w)), (4, .int vz), (0, .ref b), (1, .ref bp), (2, .int vx), (3, .int vy)]) hx hb dL_isStep_135 hl (by decide) rfl (fun ls hl => ?_)
            refine lv_aload_n hx hb dL_isStep_137 rfl (lv_at hl 4 rfl) ?_
            refine lv_iload hx hb dL_isStep_138 (lv_at hl 1 rfl) ?_
            refine xc_i (xr_V (As := [.int (nI 2)]) (rest := []) (κ := 16) ⟨hx, hb, hml, hown, hts⟩ (cz_count l O M b tb (jj := 2) (by omega)) (cwV 1 hts gL_isStep_X6_count rfl rfl rfl (by decide +kernel) ⟨Nat.le_of_ble_eq_true rfl, Nat.le_of_ble_eq_true rfl⟩) hK hst hnw hS hW tb (by decide) rfl rfl rfl hl.1 rfl (Nat.le_of_ble_eq_true rfl) dL_isStep_140 ⟨Nat.zero_le _, Nat.zero_le _⟩) hS (fun r_60 M_58 H locs hq_59 hW hS => ?_)
            obtain ⟨hq_59a, hq_59b⟩ := hq_59
            rw [hq_59b] at hW
            rw [hq_59a]
            rw [show (zf_co (b + 1) M 2) = (M (b + 2) 2) from rfl]
            refine lv_istore (lv' := [(8, .int (M (b + 2) 2)), (7, .int (nI q61)), (6, .int (nI 2)), (5, .int (nI w)), (4, .int vz), (0, .ref b), (1, .ref bp), (2, .int vx), (3, .int vy)]) hx hb dL_isStep_143 hl (by decide) rfl (fun ls hl => ?_)
            refine lv_aload_n hx hb dL_isStep_145 rfl (lv_at hl 5 rfl) ?_
            refine lv_iload hx hb dL_isStep_146 (lv_at hl 2 rfl) ?_
            refine lv_iload hx hb dL_isStep_148 (lv_at hl 1 rfl) ?_
            refine xc_i (xr_V (As := [.int (nI 2), .int (nI q61)]) (rest := []) (κ := 16) ⟨hx, hb, hml, hown, hts⟩ (cz_set l O M b tb hpb (sx := 2) (v := q61) (by omega) (nI_pos (by omega)) (show nI (q61) ≤ nI 60 from nI_le (by omega) (by omega))) (cwV 2 hts gL_isStep_X6_set rfl rfl rfl (by decide +kernel) ⟨Nat.le_of_ble_eq_true rfl, Nat.le_of_ble_eq_true rfl⟩) hK hst hnw hS hW tb (by decide) rfl rfl rfl hl.1 rfl (Nat.le_of_ble_eq_true rfl) dL_isStep_150 ⟨Nat.zero_le _, Nat.zero_le _⟩) hS (fun r_63 M_61 H locs hq_62 hW hS => ?_)
            obtain ⟨hq_62a, hq1, -⟩ := hq_62
            rw [hq_62a]
            have hpc1 : zp bp M_61 := zp_fr hpc (fun x z1 z2 => hq1.2.1 x (by omega))
            refine lv_iload hx hb dL_isStep_153 (lv_at hl 0 rfl) ?_
            refine lv_icmp_ne (tgt := 186) hx hb dL_isStep_155 (by decide) (fun c_64 => ?_) (fun c_64 => ?_)
            · exact absurd c_64 (fun z => z rfl)
            · refine lv_aload_n hx hb dL_isStep_158 rfl (lv_at hl 6 rfl) ?_
              refine lv_iload hx hb dL_isStep_159 (lv_at hl 2 rfl) ?_
              refine lv_iload hx hb dL_isStep_161 (lv_at hl 1 rfl) ?_
              refine xc_i (xr_V (As := [.int (nI 2), .int (nI q61)]) (rest := []) (κ := 16) ⟨hx, hb, hml, hown, hts⟩ (cz_set l O M_61 bp tp hpc1 (sx := 2) (v := q61) (by omega) (nI_pos (by omega)) (show nI (q61) ≤ nI 60 from nI_le (by omega) (by omega))) (cwV 2 hts gL_isStep_X6_set rfl rfl rfl (by decide +kernel) ⟨Nat.le_of_ble_eq_true rfl, Nat.le_of_ble_eq_true rfl⟩) hK hst hnw hS hW tp (by decide) rfl rfl rfl hl.1 rfl (Nat.le_of_ble_eq_true rfl) dL_isStep_163 ⟨Nat.zero_le _, Nat.zero_le _⟩) hS (fun r_67 M_65 H locs hq_66 hW hS => ?_)
              obtain ⟨hq_66a, hq2, -⟩ := hq_66
              rw [hq_66a, show M_61 (bp + 2) 2 = (M (b + 2) 2) from (by rw [hq1.2.1 _ (by omega)]; exact (congrFun (hg 1 (by omega)) 2).symm)]
              refine lv_iload hx hb dL_isStep_166 (lv_at hl 0 rfl) ?_
              refine lv_icmp_ne (tgt := 186) hx hb dL_isStep_168 (by decide) (fun c_68 => ?_) (fun c_68 => ?_)
              · exact absurd c_68 (fun z => z rfl)
              · refine lv_aload_n hx hb dL_isStep_171 rfl (lv_at hl 5 rfl) ?_
                refine lv_iload hx hb dL_isStep_172 (lv_at hl 2 rfl) ?_
                refine xc_i (xr_V (As := [.int (nI 2)]) (rest := []) (κ := 16) ⟨hx, hb, hml, hown, hts⟩ (cz_count l O M_65 b tb (jj := 2) (by omega)) (cwV 1 hts gL_isStep_X6_count rfl rfl rfl (by decide +kernel) ⟨Nat.le_of_ble_eq_true rfl, Nat.le_of_ble_eq_true rfl⟩) hK hst hnw hS hW tb (by decide) rfl rfl rfl hl.1 rfl (Nat.le_of_ble_eq_true rfl) dL_isStep_174 ⟨Nat.zero_le _, Nat.zero_le _⟩) hS (fun r_71 M_69 H locs hq_70 hW hS => ?_)
                obtain ⟨hq_70a, hq_70b⟩ := hq_70
                rw [hq_70b] at hW
                rw [hq_70a]
                rw [show (zf_co (b + 1) M_65 2) = (nI (q61)) from (by show M_65 (b + 2) 2 = _; rw [hq2.2.1 _ (by omega), hq1.2.2.1 _ (by omega) (by omega)]; exact xu_s _ _ _ _)]
                refine lv_iload hx hb dL_isStep_177 (lv_at hl 1 rfl) ?_
                refine lv_icmp_ne (tgt := 186) hx hb dL_isStep_179 (by decide) (fun c_72 => ?_) (fun c_72 => ?_)
                · exact absurd c_72 (fun z => z rfl)
                · refine lv_iconst (v := (nI 1)) hx hb dL_isStep_182 (by decide) ?_
                  refine lv_goto (tgt := 187) hx hb dL_isStep_183 (by decide) ?_
                  exact W.zret (v := (nI 1)) hx hb hr rfl (fun t ht hWm => ⟨⟨(nI 1), M_65, rfl, ⟨rfl, zL_chg hbc hL hq1 hq2 (((zZ_rf (zL_g1 hbc hg hq1)).up 1 (by omega) (by omega) (by omega) 2 rfl).1) ⟨nn, TT, by omega, (zi_set hz (fun h => absurd h (by decide))).mono (Nat.le_refl _) (by omega)⟩⟩, xw_end ht hW⟩, hS.F ht⟩) hS.2.2 dL_isStep_187
          · refine lv_bipush (v := (nI 61)) hx hb dL_isStep_125 (by decide) ?_
            refine lv_goto (tgt := 132) hx hb dL_isStep_127 (by decide) ?_
            refine xc_i (xr_S (As := [.int vy, .int (nI 61)]) (rest := []) ⟨hx, hb, hml, hown, hts⟩ (c_L_up l O M vy (n := 61) (by omega) (by omega)) (va_cwS 2 hts gL_isStep_L_up rfl rfl rfl (by decide +kernel) ⟨Nat.le_of_ble_eq_true rfl, Nat.le_of_ble_eq_true rfl⟩) hK hst hnw hS hW rfl hl.1 rfl (Nat.le_of_ble_eq_true rfl) dL_isStep_132 ⟨Nat.zero_le _, Nat.zero_le _⟩) hS (fun r_75 M_73 H locs hq_74 hW hS => ?_)
            obtain ⟨hq_74a, hq_74b⟩ := hq_74
            rw [hq_74b] at hW
            rw [hq_74a]
            obtain ⟨q61, hq61, eq61⟩ : ∃ q, q < 61 ∧ zu_u vy 61 = q := ⟨_, zu_lt (by omega), rfl⟩
            rw [eq61]
            refine lv_istore (lv' := [(7, .int (nI q61)), (6, .int (nI 2)), (5, .int (nI w)), (4, .int vz), (0, .ref b), (1, .ref bp), (2, .int vx), (3, .int vy)]) hx hb dL_isStep_135 hl (by decide) rfl (fun ls hl => ?_)
            refine lv_aload_n hx hb dL_isStep_137 rfl (lv_at hl 4 rfl) ?_
            refine lv_iload hx hb dL_isStep_138 (lv_at hl 1 rfl) ?_
            refine xc_i (xr_V (As := [.int (nI 2)]) (rest := []) (κ := 16) ⟨hx, hb, hml, hown, hts⟩ (cz_count l O M b tb (jj := 2) (by omega)) (cwV 1 hts gL_isStep_X6_count rfl rfl rfl (by decide +kernel) ⟨Nat.le_of_ble_eq_true rfl, Nat.le_of_ble_eq_true rfl⟩) hK hst hnw hS hW tb (by decide) rfl rfl rfl hl.1 rfl (Nat.le_of_ble_eq_true rfl) dL_isStep_140 ⟨Nat.zero_le _, Nat.zero_le _⟩) hS (fun r_78 M_76 H locs hq_77 hW hS => ?_)
            obtain ⟨hq_77a, hq_77b⟩ := hq_77
            rw [hq_77b] at hW
            rw [hq_77a]
            rw [show (zf_co (b + 1) M 2) = (M (b + 2) 2) from rfl]
            refine lv_istore (lv' := [(8, .int (M (b + 2) 2)), (7, .int (nI q61)), (6, .int (nI 2)), (5, .int (nI w)), (4, .int vz), (0, .ref b), (1, .ref bp), (2, .int vx), (3, .int vy)]) hx hb dL_isStep_143 hl (by decide) rfl (fun ls hl => ?_)
            refine lv_aload_n hx hb dL_isStep_145 rfl (lv_at hl 5 rfl) ?_
            refine lv_iload hx hb dL_isStep_146 (lv_at hl 2 rfl) ?_
            refine lv_iload hx hb dL_isStep_148 (lv_at hl 1 rfl) ?_
            refine xc_i (xr_V (As := [.int (nI 2), .int (nI q61)]) (rest := []) (κ := 16) ⟨hx, hb, hml, hown, hts⟩ (cz_set l O M b tb hpb (sx := 2) (v := q61) (by omega) (nI_pos (by omega)) (show nI (q61) ≤ nI 60 from nI_le (by omega) (by omega))) (cwV 2 hts gL_isStep_X6_set rfl rfl rfl (by decide +kernel) ⟨Nat.le_of_ble_eq_true rfl, Nat.le_of_ble_eq_true rfl⟩) hK hst hnw hS hW tb (by decide) rfl rfl rfl hl.1 rfl (Nat.le_of_ble_eq_true rfl) dL_isStep_150 ⟨Nat.zero_le _, Nat.zero_le _⟩) hS (fun r_81 M_79 H locs hq_80 hW hS => ?_)
            obtain ⟨hq_80a, hq1, -⟩ := hq_80
            rw [hq_80a]
            have hpc1 : zp bp M_79 := zp_fr hpc (fun x z1 z2 => hq1.2.1 x (by omega))
            refine lv_iload hx hb dL_isStep_153 (lv_at hl 0 rfl) ?_
            refine lv_icmp_ne (tgt := 186) hx hb dL_isStep_155 (by decide) (fun c_82 => ?_) (fun c_82 => ?_)
            · exact absurd c_82 (fun z => z rfl)
            · refine lv_aload_n hx hb dL_isStep_158 rfl (lv_at hl 6 rfl) ?_
              refine lv_iload hx hb dL_isStep_159 (lv_at hl 2 rfl) ?_
              refine lv_iload hx hb dL_isStep_161 (lv_at hl 1 rfl) ?_
              refine xc_i (xr_V (As := [.int (nI 2), .int (nI q61)]) (rest := []) (κ := 16) ⟨hx, hb, hml, hown, hts⟩ (cz_set l O M_79 bp tp hpc1 (sx := 2) (v := q61) (by omega) (nI_pos (by omega)) (show nI (q61) ≤ nI 60 from nI_le (by omega) (by omega))) (cwV 2 hts gL_isStep_X6_set rfl rfl rfl (by decide +kernel) ⟨Nat.le_of_ble_eq_true rfl, Nat.le_of_ble_eq_true rfl⟩) hK hst hnw hS hW tp (by decide) rfl rfl rfl hl.1 rfl (Nat.le_of_ble_eq_true rfl) dL_isStep_163 ⟨Nat.zero_le _, Nat.zero_le _⟩) hS (fun r_85 M_83 H locs hq_84 hW hS => ?_)
              obtain ⟨hq_84a, hq2, -⟩ := hq_84
              rw [hq_84a, show M_79 (bp + 2) 2 = (M (b + 2) 2) from (by rw [hq1.2.1 _ (by omega)]; exact (congrFun (hg 1 (by omega)) 2).symm)]
              refine lv_iload hx hb dL_isStep_166 (lv_at hl 0 rfl) ?_
              refine lv_icmp_ne (tgt := 186) hx hb dL_isStep_168 (by decide) (fun c_86 => ?_) (fun c_86 => ?_)
              · exact absurd c_86 (fun z => z rfl)
              · refine lv_aload_n hx hb dL_isStep_171 rfl (lv_at hl 5 rfl) ?_
                refine lv_iload hx hb dL_isStep_172 (lv_at hl 2 rfl) ?_
                refine xc_i (xr_V (As := [.int (nI 2)]) (rest := []) (κ := 16) ⟨hx, hb, hml, hown, hts⟩ (cz_count l O M_83 b tb (jj := 2) (by omega)) (cwV 1 hts gL_isStep_X6_count rfl rfl rfl (by decide +kernel) ⟨Nat.le_of_ble_eq_true rfl, Nat.le_of_ble_eq_true rfl⟩) hK hst hnw hS hW tb (by decide) rfl rfl rfl hl.1 rfl (Nat.le_of_ble_eq_true rfl) dL_isStep_174 ⟨Nat.zero_le _, Nat.zero_le _⟩) hS (fun r_89 M_87 H locs hq_88 hW hS => ?_)
                obtain ⟨hq_88a, hq_88b⟩ := hq_88
                rw [hq_88b] at hW
                rw [hq_88a]
                rw [show (zf_co (b + 1) M_83 2) = (nI (q61)) from (by show M_83 (b + 2) 2 = _; rw [hq2.2.1 _ (by omega), hq1.2.2.1 _ (by omega) (by omega)]; exact xu_s _ _ _ _)]
                refine lv_iload hx hb dL_isStep_177 (lv_at hl 1 rfl) ?_
                refine lv_icmp_ne (tgt := 186) hx hb dL_isStep_179 (by decide) (fun c_90 => ?_) (fun c_90 => ?_)
                · exact absurd c_90 (fun z => z rfl)
                · refine lv_iconst (v := (nI 1)) hx hb dL_isStep_182 (by decide) ?_
                  refine lv_goto (tgt := 187) hx hb dL_isStep_183 (by decide) ?_
                  exact W.zret (v := (nI 1)) hx hb hr rfl (fun t ht hWm => ⟨⟨(nI 1), M_83, rfl, ⟨rfl, zL_chg hbc hL hq1 hq2 (((zZ_rf (zL_g1 hbc hg hq1)).up 1 (by omega) (by omega) (by omega) 2 rfl).1) ⟨nn, TT, by omega, (zi_set hz (fun h => absurd h (by decide))).mono (Nat.le_refl _) (by omega)⟩⟩, xw_end ht hW⟩, hS.F ht⟩) hS.2.2 dL_isStep_187
        · exact absurd c_50 (by decide)
      · exact absurd c_49 (by decide)
  · refine lv_tableIn (off := 168) (tgt := 188) hx hb dL_isStep_20 (by decide) (by decide) (by decide) (by decide) ?_
    have h01 : M (b + 1 + 5 * w + 4) 0 = nI 0 ∨ M (b + 1 + 5 * w + 4) 0 = nI 1 := xw_okp hW (O.w (O.b1 tb) hw) (by decide)
    rcases h01 with h0 | h0
    · have h0p : M (bp + 1 + 5 * w + 4) 0 = nI 0 := (congrFun (zc_V hg hw) 0).trans h0
      refine lv_iload_n hx hb dL_isStep_188 rfl (lv_at hl 5 rfl) ?_
      refine lv_iconst (v := (nI 3)) hx hb dL_isStep_189 (by decide) ?_
      refine xc_i (xr_S (As := [.int vy, .int (nI 3)]) (rest := []) ⟨hx, hb, hml, hown, hts⟩ (c_L_up l O M vy (n := 3) (by omega) (by omega)) (va_cwS 2 hts gL_isStep_L_up rfl rfl rfl (by decide +kernel) ⟨Nat.le_of_ble_eq_true rfl, Nat.le_of_ble_eq_true rfl⟩) hK hst hnw hS hW rfl hl.1 rfl (Nat.le_of_ble_eq_true rfl) dL_isStep_190 ⟨Nat.zero_le _, Nat.zero_le _⟩) hS (fun r_93 M_91 H locs hq_92 hW hS => ?_)
      obtain ⟨hq_92a, hq_92b⟩ := hq_92
      rw [hq_92b] at hW
      rw [hq_92a]
      obtain ⟨q3, hq3, eq3⟩ : ∃ q, q < 3 ∧ zu_u vy 3 = q := ⟨_, zu_lt (by omega), rfl⟩
      rw [eq3]
      refine lv_if_le (tgt := 200) hx hb dL_isStep_193 (by decide) (fun c_94 => ?_) (fun c_94 => ?_)
      · refine lv_iconst (v := (nI 0)) hx hb dL_isStep_200 (by decide) ?_
        refine lv_istore (lv' := [(6, .int (nI 0)), (5, .int (nI w)), (4, .int vz), (0, .ref b), (1, .ref bp), (2, .int vx), (3, .int vy)]) hx hb dL_isStep_201 hl (by decide) rfl (fun ls hl => ?_)
        refine lv_aload_n hx hb dL_isStep_203 rfl (lv_at hl 3 rfl) ?_
        refine lv_iload hx hb dL_isStep_204 (lv_at hl 1 rfl) ?_
        refine lv_iconst (v := (nI 0)) hx hb dL_isStep_206 (by decide) ?_
        refine xc_i (xr_V (As := [.int (nI w), .int (nI 0)]) (rest := []) (κ := 16) ⟨hx, hb, hml, hown, hts⟩ (cz_windowOf l O M b tb (w := w) (jj := 0) hw (by omega)) (cwV 2 hts gL_isStep_X6_windowOf rfl rfl rfl (by decide +kernel) ⟨Nat.le_of_ble_eq_true rfl, Nat.le_of_ble_eq_true rfl⟩) hK hst hnw hS hW tb (by decide) rfl rfl rfl hl.1 rfl (Nat.le_of_ble_eq_true rfl) dL_isStep_207 ⟨Nat.zero_le _, Nat.zero_le _⟩) hS (fun r_97 M_95 H locs hq_96 hW hS => ?_)
        obtain ⟨hq_96a, hq_96b⟩ := hq_96
        rw [hq_96b] at hW
        rw [hq_96a]
        rw [show (zf_wi (b + 1) M w 0) = (nI 0) from (by show zm_h (M (b + 1 + 5 * w + 4) 0) = _; rw [h0]; rfl)]
        refine lv_iconst (v := (nI 1)) hx hb dL_isStep_210 (by decide) ?_
        refine lv_icmp_ne (tgt := 218) hx hb dL_isStep_211 (by decide) (fun c_98 => ?_) (fun c_98 => ?_)
        · refine lv_iconst (v := (nI 0)) hx hb dL_isStep_218 (by decide) ?_
          refine lv_istore (lv' := [(7, .int (nI 0)), (6, .int (nI 0)), (5, .int (nI w)), (4, .int vz), (0, .ref b), (1, .ref bp), (2, .int vx), (3, .int vy)]) hx hb dL_isStep_219 hl (by decide) rfl (fun ls hl => ?_)
          refine lv_aload_n hx hb dL_isStep_221 rfl (lv_at hl 4 rfl) ?_
          refine lv_iload hx hb dL_isStep_222 (lv_at hl 2 rfl) ?_
          refine lv_iload hx hb dL_isStep_224 (lv_at hl 1 rfl) ?_
          refine xc_i (xr_V (As := [.int (nI w), .int (nI 0)]) (rest := []) (κ := 16) ⟨hx, hb, hml, hown, hts⟩ (cz_window l O M b tb hpb hw (v := nI 0) xb_0) (cwV 2 hts gL_isStep_X6_window rfl rfl rfl (by decide +kernel) ⟨Nat.le_of_ble_eq_true rfl, Nat.le_of_ble_eq_true rfl⟩) hK hst hnw hS hW tb (by decide) rfl rfl rfl hl.1 rfl (Nat.le_of_ble_eq_true rfl) dL_isStep_226 ⟨Nat.zero_le _, Nat.zero_le _⟩) hS (fun r_101 M_99 H locs hq_100 hW hS => ?_)
          rcases hq_100 with ⟨e1, e2, e3⟩ | ⟨e1, e2, hq1, -⟩
          · rw [e3] at hW
            rw [e2]
            refine lv_istore (lv' := [(8, .int (-5)), (7, .int (nI 0)), (6, .int (nI 0)), (5, .int (nI w)), (4, .int vz), (0, .ref b), (1, .ref bp), (2, .int vx), (3, .int vy)]) hx hb dL_isStep_229 hl (by decide) rfl (fun ls hl => ?_)
            refine lv_iconst (v := (nI 0)) hx hb dL_isStep_231 (by decide) ?_
            refine lv_istore (lv' := [(9, .int (nI 0)), (8, .int (-5)), (7, .int (nI 0)), (6, .int (nI 0)), (5, .int (nI w)), (4, .int vz), (0, .ref b), (1, .ref bp), (2, .int vx), (3, .int vy)]) hx hb dL_isStep_232 hl (by decide) rfl (fun ls hl => ?_)
            refine lv_iconst (v := (nI 0)) hx hb dL_isStep_234 (by decide) ?_
            refine lv_istore (lv' := [(10, .int (nI 0)), (9, .int (nI 0)), (8, .int (-5)), (7, .int (nI 0)), (6, .int (nI 0)), (5, .int (nI w)), (4, .int vz), (0, .ref b), (1, .ref bp), (2, .int vx), (3, .int vy)]) hx hb dL_isStep_235 hl (by decide) rfl (fun ls hl => ?_)
            refine xl_up (σ := Unit) 6 (fun kk zz H locs ls => xw_D G g τ M H ∧ va_S A s.heap H locs ∧ lv_has ls 12 [(10, .int (nI kk)), (9, .int (xf_sum (fun k => zm_h (M (b + 1 + 5 * k + 4) 0)) kk)), (8, .int (-5)), (7, .int (nI 0)), (6, .int (nI 0)), (5, .int (nI w)), (4, .int vz), (2, .int vx), (3, .int vy), (0, .ref b), (1, .ref bp)] ∧ True) (fun z237 H locs ls hI => ?_) (fun k237 z237 H locs ls hk237 hI ih237 => ?_) (k0 := 0) (z0 := ()) (Nat.zero_le _) ⟨hW, hS, lv_sub hl [0, 1, 2, 3, 4, 5, 6, 9, 10, 7, 8] rfl, trivial⟩
            · obtain ⟨hW, hS, hl, hE237⟩ := hI
              refine lv_iload hx hb dL_isStep_237 (lv_at hl 0 rfl) ?_
              refine lv_bipush (v := (nI 6)) hx hb dL_isStep_239 (by decide) ?_
              refine lv_icmp_ge (tgt := 262) hx hb dL_isStep_241 (by decide) (fun c_102 => ?_) (fun c_102 => ?_)
              · refine lv_iload hx hb dL_isStep_262 (lv_at hl 2 rfl) ?_
                refine lv_aload_n hx hb dL_isStep_264 rfl (lv_at hl 10 rfl) ?_
                refine lv_iload hx hb dL_isStep_265 (lv_at hl 5 rfl) ?_
                refine lv_iload hx hb dL_isStep_267 (lv_at hl 4 rfl) ?_
                refine xc_i (xr_V (As := [.int (nI w), .int (nI 0)]) (rest := [.int (-5)]) (κ := 16) ⟨hx, hb, hml, hown, hts⟩ (cz_window l O M bp tp hpc hw (v := nI 0) xb_0) (cwV 2 hts gL_isStep_X6_window rfl rfl rfl (by decide +kernel) ⟨Nat.le_of_ble_eq_true rfl, Nat.le_of_ble_eq_true rfl⟩) hK hst hnw hS hW tp (by decide) rfl rfl rfl hl.1 rfl (Nat.le_of_ble_eq_true rfl) dL_isStep_269 ⟨Nat.zero_le _, Nat.zero_le _⟩) hS (fun r_105 M_103 H locs hq_104 hW hS => ?_)
                rcases hq_104 with ⟨e1, e2, e3⟩ | ⟨e1, e2, hq2, -⟩
                · rw [e3] at hW
                  rw [e2]
                  refine lv_icmp_ne (tgt := 319) hx hb dL_isStep_272 (by decide) (fun c_106 => ?_) (fun c_106 => ?_)
                  · exact absurd rfl c_106
                  · refine lv_iload hx hb dL_isStep_275 (lv_at hl 2 rfl) ?_
                    refine lv_iload hx hb dL_isStep_277 (lv_at hl 4 rfl) ?_
                    refine lv_iload hx hb dL_isStep_279 (lv_at hl 3 rfl) ?_
                    refine lv_icmp_ne (tgt := 289) hx hb dL_isStep_281 (by decide) (fun c_107 => ?_) (fun c_107 => ?_)
                    · exact absurd rfl c_107
                    · refine lv_bipush (v := (-5)) hx hb dL_isStep_284 (by decide) ?_
                      refine lv_goto (tgt := 291) hx hb dL_isStep_286 (by decide) ?_
                      refine lv_icmp_ne (tgt := 319) hx hb dL_isStep_291 (by decide) (fun c_108 => ?_) (fun c_108 => ?_)
                      · exact absurd c_108 (fun z => z rfl)
                      · refine lv_aload_n hx hb dL_isStep_294 rfl (lv_at hl 9 rfl) ?_
                        refine lv_iload hx hb dL_isStep_295 (lv_at hl 5 rfl) ?_
                        refine lv_iconst (v := (nI 0)) hx hb dL_isStep_297 (by decide) ?_
                        refine xc_i (xr_V (As := [.int (nI w), .int (nI 0)]) (rest := []) (κ := 16) ⟨hx, hb, hml, hown, hts⟩ (cz_windowOf l O M b tb (w := w) (jj := 0) hw (by omega)) (cwV 2 hts gL_isStep_X6_windowOf rfl rfl rfl (by decide +kernel) ⟨Nat.le_of_ble_eq_true rfl, Nat.le_of_ble_eq_true rfl⟩) hK hst hnw hS hW tb (by decide) rfl rfl rfl hl.1 rfl (Nat.le_of_ble_eq_true rfl) dL_isStep_298 ⟨Nat.zero_le _, Nat.zero_le _⟩) hS (fun r_111 M_109 H locs hq_110 hW hS => ?_)
                        obtain ⟨hq_110a, hq_110b⟩ := hq_110
                        rw [hq_110b] at hW
                        rw [hq_110a]
                        rw [show (zf_wi (b + 1) M w 0) = (nI 0) from (by show zm_h (M (b + 1 + 5 * w + 4) 0) = _; rw [h0]; rfl)]
                        refine lv_iconst (v := (nI 1)) hx hb dL_isStep_301 (by decide) ?_
                        refine lv_icmp_ne (tgt := 309) hx hb dL_isStep_302 (by decide) (fun c_112 => ?_) (fun c_112 => ?_)
                        · refine lv_iconst (v := (nI 0)) hx hb dL_isStep_309 (by decide) ?_
                          refine lv_iload hx hb dL_isStep_310 (lv_at hl 4 rfl) ?_
                          refine lv_icmp_ne (tgt := 319) hx hb dL_isStep_312 (by decide) (fun c_113 => ?_) (fun c_113 => ?_)
                          · exact absurd c_113 (fun z => z rfl)
                          · refine lv_iconst (v := (nI 1)) hx hb dL_isStep_315 (by decide) ?_
                            refine lv_goto (tgt := 320) hx hb dL_isStep_316 (by decide) ?_
                            exact W.zret (v := (nI 1)) hx hb hr rfl (fun t ht hWm => ⟨⟨(nI 1), M, rfl, ⟨rfl, zL_up hL⟩, xw_end ht hW⟩, hS.F ht⟩) hS.2.2 dL_isStep_320
                        · exact absurd c_112 (by decide)
                · exact absurd h0p e1
              · exact absurd (nI_le (Nat.le_refl _) (by decide)) c_102
            · obtain ⟨hW, hS, hl, hE237⟩ := hI
              refine lv_iload hx hb dL_isStep_237 (lv_at hl 0 rfl) ?_
              refine lv_bipush (v := (nI 6)) hx hb dL_isStep_239 (by decide) ?_
              refine lv_icmp_ge (tgt := 262) hx hb dL_isStep_241 (by decide) (fun c_114 => ?_) (fun c_114 => ?_)
              · exact absurd c_114 (nI_ge hk237 (by decide))
              · refine lv_iload hx hb dL_isStep_244 (lv_at hl 1 rfl) ?_
                refine lv_aload_n hx hb dL_isStep_246 rfl (lv_at hl 9 rfl) ?_
                refine lv_iload hx hb dL_isStep_247 (lv_at hl 0 rfl) ?_
                refine lv_iconst (v := (nI 0)) hx hb dL_isStep_249 (by decide) ?_
                refine xc_i (xr_V (As := [.int (nI k237), .int (nI 0)]) (rest := [.int (xf_sum (fun k => zm_h (M (b + 1 + 5 * k + 4) 0)) k237)]) (κ := 16) ⟨hx, hb, hml, hown, hts⟩ (cz_windowOf l O M b tb (w := k237) (jj := 0) hk237 (by omega)) (cwV 2 hts gL_isStep_X6_windowOf rfl rfl rfl (by decide +kernel) ⟨Nat.le_of_ble_eq_true rfl, Nat.le_of_ble_eq_true rfl⟩) hK hst hnw hS hW tb (by decide) rfl rfl rfl hl.1 rfl (Nat.le_of_ble_eq_true rfl) dL_isStep_250 ⟨Nat.zero_le _, Nat.zero_le _⟩) hS (fun r_117 M_115 H locs hq_116 hW hS => ?_)
                obtain ⟨hq_116a, hq_116b⟩ := hq_116
                rw [hq_116b] at hW
                rw [hq_116a]
                refine lv_iadd hx hb dL_isStep_253 ?_
                refine lv_istore (lv' := [(9, .int ((xf_sum (fun k => zm_h (M (b + 1 + 5 * k + 4) 0)) k237) + (zf_wi (b + 1) M k237 0))), (10, .int (nI k237)), (8, .int (-5)), (7, .int (nI 0)), (6, .int (nI 0)), (5, .int (nI w)), (4, .int vz), (2, .int vx), (3, .int vy), (0, .ref b), (1, .ref bp)]) hx hb dL_isStep_254 hl (by decide) rfl (fun ls hl => ?_)
                refine lv_iinc (v := (nI (k237 + 1))) (lv' := [(10, .int (nI (k237 + 1))), (9, .int ((xf_sum (fun k => zm_h (M (b + 1 + 5 * k + 4) 0)) k237) + (zf_wi (b + 1) M k237 0))), (8, .int (-5)), (7, .int (nI 0)), (6, .int (nI 0)), (5, .int (nI w)), (4, .int vz), (2, .int vx), (3, .int vy), (0, .ref b), (1, .ref bp)]) hx hb dL_isStep_256 hl (k := 1) rfl ((nI_1 k237)) (by decide) rfl (fun ls hl => ?_)
                refine lv_goto (tgt := 237) hx hb dL_isStep_259 (by decide) ?_
                exact ih237 () _ _ _ ⟨hW, hS, lv_sub hl [0, 1, 2, 3, 4, 5, 6, 7, 8, 9, 10] rfl, trivial⟩
          · exact absurd h0 e1
        · exact absurd c_98 (by decide)
      · refine lv_iconst (v := (nI 1)) hx hb dL_isStep_196 (by decide) ?_
        refine lv_goto (tgt := 201) hx hb dL_isStep_197 (by decide) ?_
        refine lv_istore (lv' := [(6, .int (nI 1)), (5, .int (nI w)), (4, .int vz), (0, .ref b), (1, .ref bp), (2, .int vx), (3, .int vy)]) hx hb dL_isStep_201 hl (by decide) rfl (fun ls hl => ?_)
        refine lv_aload_n hx hb dL_isStep_203 rfl (lv_at hl 3 rfl) ?_
        refine lv_iload hx hb dL_isStep_204 (lv_at hl 1 rfl) ?_
        refine lv_iconst (v := (nI 0)) hx hb dL_isStep_206 (by decide) ?_
        refine xc_i (xr_V (As := [.int (nI w), .int (nI 0)]) (rest := []) (κ := 16) ⟨hx, hb, hml, hown, hts⟩ (cz_windowOf l O M b tb (w := w) (jj := 0) hw (by omega)) (cwV 2 hts gL_isStep_X6_windowOf rfl rfl rfl (by decide +kernel) ⟨Nat.le_of_ble_eq_true rfl, Nat.le_of_ble_eq_true rfl⟩) hK hst hnw hS hW tb (by decide) rfl rfl rfl hl.1 rfl (Nat.le_of_ble_eq_true rfl) dL_isStep_207 ⟨Nat.zero_le _, Nat.zero_le _⟩) hS (fun r_120 M_118 H locs hq_119 hW hS => ?_)
        obtain ⟨hq_119a, hq_119b⟩ := hq_119
        rw [hq_119b] at hW
        rw [hq_119a]
        rw [show (zf_wi (b + 1) M w 0) = (nI 0) from (by show zm_h (M (b + 1 + 5 * w + 4) 0) = _; rw [h0]; rfl)]
        refine lv_iconst (v := (nI 1)) hx hb dL_isStep_210 (by decide) ?_
        refine lv_icmp_ne (tgt := 218) hx hb dL_isStep_211 (by decide) (fun c_121 => ?_) (fun c_121 => ?_)
        · refine lv_iconst (v := (nI 0)) hx hb dL_isStep_218 (by decide) ?_
          refine lv_istore (lv' := [(7, .int (nI 0)), (6, .int (nI 1)), (5, .int (nI w)), (4, .int vz), (0, .ref b), (1, .ref bp), (2, .int vx), (3, .int vy)]) hx hb dL_isStep_219 hl (by decide) rfl (fun ls hl => ?_)
          refine lv_aload_n hx hb dL_isStep_221 rfl (lv_at hl 4 rfl) ?_
          refine lv_iload hx hb dL_isStep_222 (lv_at hl 2 rfl) ?_
          refine lv_iload hx hb dL_isStep_224 (lv_at hl 1 rfl) ?_
          refine xc_i (xr_V (As := [.int (nI w), .int (nI 1)]) (rest := []) (κ := 16) ⟨hx, hb, hml, hown, hts⟩ (cz_window l O M b tb hpb hw (v := nI 1) xb_1) (cwV 2 hts gL_isStep_X6_window rfl rfl rfl (by decide +kernel) ⟨Nat.le_of_ble_eq_true rfl, Nat.le_of_ble_eq_true rfl⟩) hK hst hnw hS hW tb (by decide) rfl rfl rfl hl.1 rfl (Nat.le_of_ble_eq_true rfl) dL_isStep_226 ⟨Nat.zero_le _, Nat.zero_le _⟩) hS (fun r_124 M_122 H locs hq_123 hW hS => ?_)
          rcases hq_123 with ⟨e1, e2, e3⟩ | ⟨e1, e2, hq1, -⟩
          · exact absurd (h0.symm.trans e1) (by decide)
          · rw [e2]
            have hpc1 : zp bp M_122 := zp_fr hpc (fun x z1 z2 => hq1.2.1 x (by omega))
            have h0q : M_122 (bp + 1 + 5 * w + 4) 0 = nI 0 := by rw [hq1.2.1 _ (by omega)]; exact h0p
            refine lv_istore (lv' := [(8, .int (zc_ow (b + 1) M_122)), (7, .int (nI 0)), (6, .int (nI 1)), (5, .int (nI w)), (4, .int vz), (0, .ref b), (1, .ref bp), (2, .int vx), (3, .int vy)]) hx hb dL_isStep_229 hl (by decide) rfl (fun ls hl => ?_)
            refine lv_iconst (v := (nI 0)) hx hb dL_isStep_231 (by decide) ?_
            refine lv_istore (lv' := [(9, .int (nI 0)), (8, .int (zc_ow (b + 1) M_122)), (7, .int (nI 0)), (6, .int (nI 1)), (5, .int (nI w)), (4, .int vz), (0, .ref b), (1, .ref bp), (2, .int vx), (3, .int vy)]) hx hb dL_isStep_232 hl (by decide) rfl (fun ls hl => ?_)
            refine lv_iconst (v := (nI 0)) hx hb dL_isStep_234 (by decide) ?_
            refine lv_istore (lv' := [(10, .int (nI 0)), (9, .int (nI 0)), (8, .int (zc_ow (b + 1) M_122)), (7, .int (nI 0)), (6, .int (nI 1)), (5, .int (nI w)), (4, .int vz), (0, .ref b), (1, .ref bp), (2, .int vx), (3, .int vy)]) hx hb dL_isStep_235 hl (by decide) rfl (fun ls hl => ?_)
            refine xl_up (σ := Unit) 6 (fun kk zz H locs ls => xw_D G g τ M_122 H ∧ va_S A s.heap H locs ∧ lv_has ls 12 [(10, .int (nI kk)), (9, .int (xf_sum (fun k => zm_h (M_122 (b + 1 + 5 * k + 4) 0)) kk)), (8, .int (zc_ow (b + 1) M_122)), (7, .int (nI 0)), (6, .int (nI 1)), (5, .int (nI w)), (4, .int vz), (2, .int vx), (3, .int vy), (0, .ref b), (1, .ref bp)] ∧ True) (fun z237 H locs ls hI => ?_) (fun k237 z237 H locs ls hk237 hI ih237 => ?_) (k0 := 0) (z0 := ()) (Nat.zero_le _) ⟨hW, hS, lv_sub hl [0, 1, 2, 3, 4, 5, 6, 9, 10, 7, 8] rfl, trivial⟩
            · obtain ⟨hW, hS, hl, hE237⟩ := hI
              refine lv_iload hx hb dL_isStep_237 (lv_at hl 0 rfl) ?_
              refine lv_bipush (v := (nI 6)) hx hb dL_isStep_239 (by decide) ?_
              refine lv_icmp_ge (tgt := 262) hx hb dL_isStep_241 (by decide) (fun c_125 => ?_) (fun c_125 => ?_)
              · refine lv_iload hx hb dL_isStep_262 (lv_at hl 2 rfl) ?_
                refine lv_aload_n hx hb dL_isStep_264 rfl (lv_at hl 10 rfl) ?_
                refine lv_iload hx hb dL_isStep_265 (lv_at hl 5 rfl) ?_
                refine lv_iload hx hb dL_isStep_267 (lv_at hl 4 rfl) ?_
                refine xc_i (xr_V (As := [.int (nI w), .int (nI 1)]) (rest := [.int (zc_ow (b + 1) M_122)]) (κ := 16) ⟨hx, hb, hml, hown, hts⟩ (cz_window l O M_122 bp tp hpc1 hw (v := nI 1) xb_1) (cwV 2 hts gL_isStep_X6_window rfl rfl rfl (by decide +kernel) ⟨Nat.le_of_ble_eq_true rfl, Nat.le_of_ble_eq_true rfl⟩) hK hst hnw hS hW tp (by decide) rfl rfl rfl hl.1 rfl (Nat.le_of_ble_eq_true rfl) dL_isStep_269 ⟨Nat.zero_le _, Nat.zero_le _⟩) hS (fun r_128 M_126 H locs hq_127 hW hS => ?_)
                rcases hq_127 with ⟨e1, e2, e3⟩ | ⟨e1, e2, hq2, -⟩
                · exact absurd (h0q.symm.trans e1) (by decide)
                · rw [e2]
                  refine lv_icmp_ne (tgt := 319) hx hb dL_isStep_272 (by decide) (fun c_129 => ?_) (fun c_129 => ?_)
                  · exact absurd (zg_ow (((zq_n hq1).sym.tr ((zZ_rf (zL_g1 hbc hg hq1)).up (5 * w + 4) (by omega) (by omega) (by omega) 0 rfl).1).tr (zq_n hq2))).symm c_129
                  · refine lv_iload hx hb dL_isStep_275 (lv_at hl 2 rfl) ?_
                    refine lv_iload hx hb dL_isStep_277 (lv_at hl 4 rfl) ?_
                    refine lv_iload hx hb dL_isStep_279 (lv_at hl 3 rfl) ?_
                    refine lv_icmp_ne (tgt := 289) hx hb dL_isStep_281 (by decide) (fun c_130 => ?_) (fun c_130 => ?_)
                    · refine lv_iload hx hb dL_isStep_289 (lv_at hl 1 rfl) ?_
                      refine lv_icmp_ne (tgt := 319) hx hb dL_isStep_291 (by decide) (fun c_131 => ?_) (fun c_131 => ?_)
                      · exact absurd c_131 (fun z => z rfl)
                      · refine lv_aload_n hx hb dL_isStep_294 rfl (lv_at hl 9 rfl) ?_
                        refine lv_iload hx hb dL_isStep_295 (lv_at hl 5 rfl) ?_
                        refine lv_iconst (v := (nI 0)) hx hb dL_isStep_297 (by decide) ?_
                        refine xc_i (xr_V (As := [.int (nI w), .int (nI 0)]) (rest := []) (κ := 16) ⟨hx, hb, hml, hown, hts⟩ (cz_windowOf l O M_126 b tb (w := w) (jj := 0) hw (by omega)) (cwV 2 hts gL_isStep_X6_windowOf rfl rfl rfl (by decide +kernel) ⟨Nat.le_of_ble_eq_true rfl, Nat.le_of_ble_eq_true rfl⟩) hK hst hnw hS hW tb (by decide) rfl rfl rfl hl.1 rfl (Nat.le_of_ble_eq_true rfl) dL_isStep_298 ⟨Nat.zero_le _, Nat.zero_le _⟩) hS (fun r_134 M_132 H locs hq_133 hW hS => ?_)
                        obtain ⟨hq_133a, hq_133b⟩ := hq_133
                        rw [hq_133b] at hW
                        rw [hq_133a]
                        rw [show (zf_wi (b + 1) M_126 w 0) = (nI 1) from (by show zm_h (M_126 (b + 1 + 5 * w + 4) 0) = _; rw [hq2.2.1 _ (by omega), hq1.2.2.1 _ (by omega) (by omega), xu_s]; rfl)]
                        refine lv_iconst (v := (nI 1)) hx hb dL_isStep_301 (by decide) ?_
                        refine lv_icmp_ne (tgt := 309) hx hb dL_isStep_302 (by decide) (fun c_135 => ?_) (fun c_135 => ?_)
                        · exact absurd rfl c_135
                        · refine lv_iconst (v := (nI 1)) hx hb dL_isStep_305 (by decide) ?_
                          refine lv_goto (tgt := 310) hx hb dL_isStep_306 (by decide) ?_
                          refine lv_iload hx hb dL_isStep_310 (lv_at hl 4 rfl) ?_
                          refine lv_icmp_ne (tgt := 319) hx hb dL_isStep_312 (by decide) (fun c_136 => ?_) (fun c_136 => ?_)
                          · exact absurd c_136 (fun z => z rfl)
                          · refine lv_iconst (v := (nI 1)) hx hb dL_isStep_315 (by decide) ?_
                            refine lv_goto (tgt := 320) hx hb dL_isStep_316 (by decide) ?_
                            exact W.zret (v := (nI 1)) hx hb hr rfl (fun t ht hWm => ⟨⟨(nI 1), M_126, rfl, ⟨rfl, zL_chg hbc hL hq1 hq2 (((zZ_rf (zL_g1 hbc hg hq1)).up (5 * w + 4) (by omega) (by omega) (by omega) 0 rfl).1) ⟨nn, TT, by omega, (zi_win hz hw (by omega)).mono (Nat.le_refl _) (by omega)⟩⟩, xw_end ht hW⟩, hS.F ht⟩) hS.2.2 dL_isStep_320
                    · exact absurd c_130 (by decide)
              · exact absurd (nI_le (Nat.le_refl _) (by decide)) c_125
            · obtain ⟨hW, hS, hl, hE237⟩ := hI
              refine lv_iload hx hb dL_isStep_237 (lv_at hl 0 rfl) ?_
              refine lv_bipush (v := (nI 6)) hx hb dL_isStep_239 (by decide) ?_
              refine lv_icmp_ge (tgt := 262) hx hb dL_isStep_241 (by decide) (fun c_137 => ?_) (fun c_137 => ?_)
              · exact absurd c_137 (nI_ge hk237 (by decide))
              · refine lv_iload hx hb dL_isStep_244 (lv_at hl 1 rfl) ?_
                refine lv_aload_n hx hb dL_isStep_246 rfl (lv_at hl 9 rfl) ?_
                refine lv_iload hx hb dL_isStep_247 (lv_at hl 0 rfl) ?_
                refine lv_iconst (v := (nI 0)) hx hb dL_isStep_249 (by decide) ?_
                refine xc_i (xr_V (As := [.int (nI k237), .int (nI 0)]) (rest := [.int (xf_sum (fun k => zm_h (M_122 (b + 1 + 5 * k + 4) 0)) k237)]) (κ := 16) ⟨hx, hb, hml, hown, hts⟩ (cz_windowOf l O M_122 b tb (w := k237) (jj := 0) hk237 (by omega)) (cwV 2 hts gL_isStep_X6_windowOf rfl rfl rfl (by decide +kernel) ⟨Nat.le_of_ble_eq_true rfl, Nat.le_of_ble_eq_true rfl⟩) hK hst hnw hS hW tb (by decide) rfl rfl rfl hl.1 rfl (Nat.le_of_ble_eq_true rfl) dL_isStep_250 ⟨Nat.zero_le _, Nat.zero_le _⟩) hS (fun r_140 M_138 H locs hq_139 hW hS => ?_)
                obtain ⟨hq_139a, hq_139b⟩ := hq_139
                rw [hq_139b] at hW
                rw [hq_139a]
                refine lv_iadd hx hb dL_isStep_253 ?_
                refine lv_istore (lv' := [(9, .int ((xf_sum (fun k => zm_h (M_122 (b + 1 + 5 * k + 4) 0)) k237) + (zf_wi (b + 1) M_122 k237 0))), (10, .int (nI k237)), (8, .int (zc_ow (b + 1) M_122)), (7, .int (nI 0)), (6, .int (nI 1)), (5, .int (nI w)), (4, .int vz), (2, .int vx), (3, .int vy), (0, .ref b), (1, .ref bp)]) hx hb dL_isStep_254 hl (by decide) rfl (fun ls hl => ?_)
                refine lv_iinc (v := (nI (k237 + 1))) (lv' := [(10, .int (nI (k237 + 1))), (9, .int ((xf_sum (fun k => zm_h (M_122 (b + 1 + 5 * k + 4) 0)) k237) + (zf_wi (b + 1) M_122 k237 0))), (8, .int (zc_ow (b + 1) M_122)), (7, .int (nI 0)), (6, .int (nI 1)), (5, .int (nI w)), (4, .int vz), (2, .int vx), (3, .int vy), (0, .ref b), (1, .ref bp)]) hx hb dL_isStep_256 hl (k := 1) rfl ((nI_1 k237)) (by decide) rfl (fun ls hl => ?_)
                refine lv_goto (tgt := 237) hx hb dL_isStep_259 (by decide) ?_
                exact ih237 () _ _ _ ⟨hW, hS, lv_sub hl [0, 1, 2, 3, 4, 5, 6, 7, 8, 9, 10] rfl, trivial⟩
        · exact absurd c_121 (by decide)
    · have h0p : M (bp + 1 + 5 * w + 4) 0 = nI 1 := (congrFun (zc_V hg hw) 0).trans h0
      refine lv_iload_n hx hb dL_isStep_188 rfl (lv_at hl 5 rfl) ?_
      refine lv_iconst (v := (nI 3)) hx hb dL_isStep_189 (by decide) ?_
      refine xc_i (xr_S (As := [.int vy, .int (nI 3)]) (rest := []) ⟨hx, hb, hml, hown, hts⟩ (c_L_up l O M vy (n := 3) (by omega) (by omega)) (va_cwS 2 hts gL_isStep_L_up rfl rfl rfl (by decide +kernel) ⟨Nat.le_of_ble_eq_true rfl, Nat.le_of_ble_eq_true rfl⟩) hK hst hnw hS hW rfl hl.1 rfl (Nat.le_of_ble_eq_true rfl) dL_isStep_190 ⟨Nat.zero_le _, Nat.zero_le _⟩) hS (fun r_143 M_141 H locs hq_142 hW hS => ?_)
      obtain ⟨hq_142a, hq_142b⟩ := hq_142
      rw [hq_142b] at hW
      rw [hq_142a]
      obtain ⟨q3, hq3, eq3⟩ : ∃ q, q < 3 ∧ zu_u vy 3 = q := ⟨_, zu_lt (by omega), rfl⟩
      rw [eq3]
      refine lv_if_le (tgt := 200) hx hb dL_isStep_193 (by decide) (fun c_144 => ?_) (fun c_144 => ?_)
      · refine lv_iconst (v := (nI 0)) hx hb dL_isStep_200 (by decide) ?_
        refine lv_istore (lv' := [(6, .int (nI 0)), (5, .int (nI w)), (4, .int vz), (0, .ref b), (1, .ref bp), (2, .int vx), (3, .int vy)]) hx hb dL_isStep_201 hl (by decide) rfl (fun ls hl => ?_)
        refine lv_aload_n hx hb dL_isStep_203 rfl (lv_at hl 3 rfl) ?_
        refine lv_iload hx hb dL_isStep_204 (lv_at hl 1 rfl) ?_
        refine lv_iconst (v := (nI 0)) hx hb dL_isStep_206 (by decide) ?_
        refine xc_i (xr_V (As := [.int (nI w), .int (nI 0)]) (rest := []) (κ := 16) ⟨hx, hb, hml, hown, hts⟩ (cz_windowOf l O M b tb (w := w) (jj := 0) hw (by omega)) (cwV 2 hts gL_isStep_X6_windowOf rfl rfl rfl (by decide +kernel) ⟨Nat.le_of_ble_eq_true rfl, Nat.le_of_ble_eq_true rfl⟩) hK hst hnw hS hW tb (by decide) rfl rfl rfl hl.1 rfl (Nat.le_of_ble_eq_true rfl) dL_isStep_207 ⟨Nat.zero_le _, Nat.zero_le _⟩) hS (fun r_147 M_145 H locs hq_146 hW hS => ?_)
        obtain ⟨hq_146a, hq_146b⟩ := hq_146
        rw [hq_146b] at hW
        rw [hq_146a]
        rw [show (zf_wi (b + 1) M w 0) = (nI 1) from (by show zm_h (M (b + 1 + 5 * w + 4) 0) = _; rw [h0]; rfl)]
        refine lv_iconst (v := (nI 1)) hx hb dL_isStep_210 (by decide) ?_
        refine lv_icmp_ne (tgt := 218) hx hb dL_isStep_211 (by decide) (fun c_148 => ?_) (fun c_148 => ?_)
        · exact absurd rfl c_148
        · refine lv_iconst (v := (nI 1)) hx hb dL_isStep_214 (by decide) ?_
          refine lv_goto (tgt := 219) hx hb dL_isStep_215 (by decide) ?_
          refine lv_istore (lv' := [(7, .int (nI 1)), (6, .int (nI 0)), (5, .int (nI w)), (4, .int vz), (0, .ref b), (1, .ref bp), (2, .int vx), (3, .int vy)]) hx hb dL_isStep_219 hl (by decide) rfl (fun ls hl => ?_)
          refine lv_aload_n hx hb dL_isStep_221 rfl (lv_at hl 4 rfl) ?_
          refine lv_iload hx hb dL_isStep_222 (lv_at hl 2 rfl) ?_
          refine lv_iload hx hb dL_isStep_224 (lv_at hl 1 rfl) ?_
          refine xc_i (xr_V (As := [.int (nI w), .int (nI 0)]) (rest := []) (κ := 16) ⟨hx, hb, hml, hown, hts⟩ (cz_window l O M b tb hpb hw (v := nI 0) xb_0) (cwV 2 hts gL_isStep_X6_window rfl rfl rfl (by decide +kernel) ⟨Nat.le_of_ble_eq_true rfl, Nat.le_of_ble_eq_true rfl⟩) hK hst hnw hS hW tb (by decide) rfl rfl rfl hl.1 rfl (Nat.le_of_ble_eq_true rfl) dL_isStep_226 ⟨Nat.zero_le _, Nat.zero_le _⟩) hS (fun r_151 M_149 H locs hq_150 hW hS => ?_)
          rcases hq_150 with ⟨e1, e2, e3⟩ | ⟨e1, e2, hq1, -⟩
          · exact absurd (h0.symm.trans e1) (by decide)
          · rw [e2]
            have hpc1 : zp bp M_149 := zp_fr hpc (fun x z1 z2 => hq1.2.1 x (by omega))
            have h0q : M_149 (bp + 1 + 5 * w + 4) 0 = nI 1 := by rw [hq1.2.1 _ (by omega)]; exact h0p
            refine lv_istore (lv' := [(8, .int (zc_ow (b + 1) M_149)), (7, .int (nI 1)), (6, .int (nI 0)), (5, .int (nI w)), (4, .int vz), (0, .ref b), (1, .ref bp), (2, .int vx), (3, .int vy)]) hx hb dL_isStep_229 hl (by decide) rfl (fun ls hl => ?_)
            refine lv_iconst (v := (nI 0)) hx hb dL_isStep_231 (by decide) ?_
            refine lv_istore (lv' := [(9, .int (nI 0)), (8, .int (zc_ow (b + 1) M_149)), (7, .int (nI 1)), (6, .int (nI 0)), (5, .int (nI w)), (4, .int vz), (0, .ref b), (1, .ref bp), (2, .int vx), (3, .int vy)]) hx hb dL_isStep_232 hl (by decide) rfl (fun ls hl => ?_)
            refine lv_iconst (v := (nI 0)) hx hb dL_isStep_234 (by decide) ?_
            refine lv_istore (lv' := [(10, .int (nI 0)), (9, .int (nI 0)), (8, .int (zc_ow (b + 1) M_149)), (7, .int (nI 1)), (6, .int (nI 0)), (5, .int (nI w)), (4, .int vz), (0, .ref b), (1, .ref bp), (2, .int vx), (3, .int vy)]) hx hb dL_isStep_235 hl (by decide) rfl (fun ls hl => ?_)
            refine xl_up (σ := Unit) 6 (fun kk zz H locs ls => xw_D G g τ M_149 H ∧ va_S A s.heap H locs ∧ lv_has ls 12 [(10, .int (nI kk)), (9, .int (xf_sum (fun k => zm_h (M_149 (b + 1 + 5 * k + 4) 0)) kk)), (8, .int (zc_ow (b + 1) M_149)), (7, .int (nI 1)), (6, .int (nI 0)), (5, .int (nI w)), (4, .int vz), (2, .int vx), (3, .int vy), (0, .ref b), (1, .ref bp)] ∧ True) (fun z237 H locs ls hI => ?_) (fun k237 z237 H locs ls hk237 hI ih237 => ?_) (k0 := 0) (z0 := ()) (Nat.zero_le _) ⟨hW, hS, lv_sub hl [0, 1, 2, 3, 4, 5, 6, 9, 10, 7, 8] rfl, trivial⟩
            · obtain ⟨hW, hS, hl, hE237⟩ := hI
              refine lv_iload hx hb dL_isStep_237 (lv_at hl 0 rfl) ?_
              refine lv_bipush (v := (nI 6)) hx hb dL_isStep_239 (by decide) ?_
              refine lv_icmp_ge (tgt := 262) hx hb dL_isStep_241 (by decide) (fun c_152 => ?_) (fun c_152 => ?_)
              · refine lv_iload hx hb dL_isStep_262 (lv_at hl 2 rfl) ?_
                refine lv_aload_n hx hb dL_isStep_264 rfl (lv_at hl 10 rfl) ?_
                refine lv_iload hx hb dL_isStep_265 (lv_at hl 5 rfl) ?_
                refine lv_iload hx hb dL_isStep_267 (lv_at hl 4 rfl) ?_
                refine xc_i (xr_V (As := [.int (nI w), .int (nI 0)]) (rest := [.int (zc_ow (b + 1) M_149)]) (κ := 16) ⟨hx, hb, hml, hown, hts⟩ (cz_window l O M_149 bp tp hpc1 hw (v := nI 0) xb_0) (cwV 2 hts gL_isStep_X6_window rfl rfl rfl (by decide +kernel) ⟨Nat.le_of_ble_eq_true rfl, Nat.le_of_ble_eq_true rfl⟩) hK hst hnw hS hW tp (by decide) rfl rfl rfl hl.1 rfl (Nat.le_of_ble_eq_true rfl) dL_isStep_269 ⟨Nat.zero_le _, Nat.zero_le _⟩) hS (fun r_155 M_153 H locs hq_154 hW hS => ?_)
                rcases hq_154 with ⟨e1, e2, e3⟩ | ⟨e1, e2, hq2, -⟩
                · exact absurd (h0q.symm.trans e1) (by decide)
                · rw [e2]
                  refine lv_icmp_ne (tgt := 319) hx hb dL_isStep_272 (by decide) (fun c_156 => ?_) (fun c_156 => ?_)
                  · exact absurd (zg_ow (((zq_n hq1).sym.tr ((zZ_rf (zL_g1 hbc hg hq1)).up (5 * w + 4) (by omega) (by omega) (by omega) 0 rfl).1).tr (zq_n hq2))).symm c_156
                  · refine lv_iload hx hb dL_isStep_275 (lv_at hl 2 rfl) ?_
                    refine lv_iload hx hb dL_isStep_277 (lv_at hl 4 rfl) ?_
                    refine lv_iload hx hb dL_isStep_279 (lv_at hl 3 rfl) ?_
                    refine lv_icmp_ne (tgt := 289) hx hb dL_isStep_281 (by decide) (fun c_157 => ?_) (fun c_157 => ?_)
                    · refine lv_iload hx hb dL_isStep_289 (lv_at hl 1 rfl) ?_
                      refine lv_icmp_ne (tgt := 319) hx hb dL_isStep_291 (by decide) (fun c_158 => ?_) (fun c_158 => ?_)
                      · exact absurd c_158 (fun z => z rfl)
                      · refine lv_aload_n hx hb dL_isStep_294 rfl (lv_at hl 9 rfl) ?_
                        refine lv_iload hx hb dL_isStep_295 (lv_at hl 5 rfl) ?_
                        refine lv_iconst (v := (nI 0)) hx hb dL_isStep_297 (by decide) ?_
                        refine xc_i (xr_V (As := [.int (nI w), .int (nI 0)]) (rest := []) (κ := 16) ⟨hx, hb, hml, hown, hts⟩ (cz_windowOf l O M_153 b tb (w := w) (jj := 0) hw (by omega)) (cwV 2 hts gL_isStep_X6_windowOf rfl rfl rfl (by decide +kernel) ⟨Nat.le_of_ble_eq_true rfl, Nat.le_of_ble_eq_true rfl⟩) hK hst hnw hS hW tb (by decide) rfl rfl rfl hl.1 rfl (Nat.le_of_ble_eq_true rfl) dL_isStep_298 ⟨Nat.zero_le _, Nat.zero_le _⟩) hS (fun r_161 M_159 H locs hq_160 hW hS => ?_)
                        obtain ⟨hq_160a, hq_160b⟩ := hq_160
                        rw [hq_160b] at hW
                        rw [hq_160a]
                        rw [show (zf_wi (b + 1) M_153 w 0) = (nI 0) from (by show zm_h (M_153 (b + 1 + 5 * w + 4) 0) = _; rw [hq2.2.1 _ (by omega), hq1.2.2.1 _ (by omega) (by omega), xu_s]; rfl)]
                        refine lv_iconst (v := (nI 1)) hx hb dL_isStep_301 (by decide) ?_
                        refine lv_icmp_ne (tgt := 309) hx hb dL_isStep_302 (by decide) (fun c_162 => ?_) (fun c_162 => ?_)
                        · refine lv_iconst (v := (nI 0)) hx hb dL_isStep_309 (by decide) ?_
                          refine lv_iload hx hb dL_isStep_310 (lv_at hl 4 rfl) ?_
                          refine lv_icmp_ne (tgt := 319) hx hb dL_isStep_312 (by decide) (fun c_163 => ?_) (fun c_163 => ?_)
                          · exact absurd c_163 (fun z => z rfl)
                          · refine lv_iconst (v := (nI 1)) hx hb dL_isStep_315 (by decide) ?_
                            refine lv_goto (tgt := 320) hx hb dL_isStep_316 (by decide) ?_
                            exact W.zret (v := (nI 1)) hx hb hr rfl (fun t ht hWm => ⟨⟨(nI 1), M_153, rfl, ⟨rfl, zL_chg hbc hL hq1 hq2 (((zZ_rf (zL_g1 hbc hg hq1)).up (5 * w + 4) (by omega) (by omega) (by omega) 0 rfl).1) ⟨nn, TT, by omega, (zi_win hz hw (by omega)).mono (Nat.le_refl _) (by omega)⟩⟩, xw_end ht hW⟩, hS.F ht⟩) hS.2.2 dL_isStep_320
                        · exact absurd c_162 (by decide)
                    · exact absurd c_157 (by decide)
              · exact absurd (nI_le (Nat.le_refl _) (by decide)) c_152
            · obtain ⟨hW, hS, hl, hE237⟩ := hI
              refine lv_iload hx hb dL_isStep_237 (lv_at hl 0 rfl) ?_
              refine lv_bipush (v := (nI 6)) hx hb dL_isStep_239 (by decide) ?_
              refine lv_icmp_ge (tgt := 262) hx hb dL_isStep_241 (by decide) (fun c_164 => ?_) (fun c_164 => ?_)
              · exact absurd c_164 (nI_ge hk237 (by decide))
              · refine lv_iload hx hb dL_isStep_244 (lv_at hl 1 rfl) ?_
                refine lv_aload_n hx hb dL_isStep_246 rfl (lv_at hl 9 rfl) ?_
                refine lv_iload hx hb dL_isStep_247 (lv_at hl 0 rfl) ?_
                refine lv_iconst (v := (nI 0)) hx hb dL_isStep_249 (by decide) ?_
                refine xc_i (xr_V (As := [.int (nI k237), .int (nI 0)]) (rest := [.int (xf_sum (fun k => zm_h (M_149 (b + 1 + 5 * k + 4) 0)) k237)]) (κ := 16) ⟨hx, hb, hml, hown, hts⟩ (cz_windowOf l O M_149 b tb (w := k237) (jj := 0) hk237 (by omega)) (cwV 2 hts gL_isStep_X6_windowOf rfl rfl rfl (by decide +kernel) ⟨Nat.le_of_ble_eq_true rfl, Nat.le_of_ble_eq_true rfl⟩) hK hst hnw hS hW tb (by decide) rfl rfl rfl hl.1 rfl (Nat.le_of_ble_eq_true rfl) dL_isStep_250 ⟨Nat.zero_le _, Nat.zero_le _⟩) hS (fun r_167 M_165 H locs hq_166 hW hS => ?_)
                obtain ⟨hq_166a, hq_166b⟩ := hq_166
                rw [hq_166b] at hW
                rw [hq_166a]
                refine lv_iadd hx hb dL_isStep_253 ?_
                refine lv_istore (lv' := [(9, .int ((xf_sum (fun k => zm_h (M_149 (b + 1 + 5 * k + 4) 0)) k237) + (zf_wi (b + 1) M_149 k237 0))), (10, .int (nI k237)), (8, .int (zc_ow (b + 1) M_149)), (7, .int (nI 1)), (6, .int (nI 0)), (5, .int (nI w)), (4, .int vz), (2, .int vx), (3, .int vy), (0, .ref b), (1, .ref bp)]) hx hb dL_isStep_254 hl (by decide) rfl (fun ls hl => ?_)
                refine lv_iinc (v := (nI (k237 + 1))) (lv' := [(10, .int (nI (k237 + 1))), (9, .int ((xf_sum (fun k => zm_h (M_149 (b + 1 + 5 * k + 4) 0)) k237) + (zf_wi (b + 1) M_149 k237 0))), (8, .int (zc_ow (b + 1) M_149)), (7, .int (nI 1)), (6, .int (nI 0)), (5, .int (nI w)), (4, .int vz), (2, .int vx), (3, .int vy), (0, .ref b), (1, .ref bp)]) hx hb dL_isStep_256 hl (k := 1) rfl ((nI_1 k237)) (by decide) rfl (fun ls hl => ?_)
                refine lv_goto (tgt := 237) hx hb dL_isStep_259 (by decide) ?_
                exact ih237 () _ _ _ ⟨hW, hS, lv_sub hl [0, 1, 2, 3, 4, 5, 6, 7, 8, 9, 10] rfl, trivial⟩
      · refine lv_iconst (v := (nI 1)) hx hb dL_isStep_196 (by decide) ?_
        refine lv_goto (tgt := 201) hx hb dL_isStep_197 (by decide) ?_
        refine lv_istore (lv' := [(6, .int (nI 1)), (5, .int (nI w)), (4, .int vz), (0, .ref b), (1, .ref bp), (2, .int vx), (3, .int vy)]) hx hb dL_isStep_201 hl (by decide) rfl (fun ls hl => ?_)
        refine lv_aload_n hx hb dL_isStep_203 rfl (lv_at hl 3 rfl) ?_
        refine lv_iload hx hb dL_isStep_204 (lv_at hl 1 rfl) ?_
        refine lv_iconst (v := (nI 0)) hx hb dL_isStep_206 (by decide) ?_
        refine xc_i (xr_V (As := [.int (nI w), .int (nI 0)]) (rest := []) (κ := 16) ⟨hx, hb, hml, hown, hts⟩ (cz_windowOf l O M b tb (w := w) (jj := 0) hw (by omega)) (cwV 2 hts gL_isStep_X6_windowOf rfl rfl rfl (by decide +kernel) ⟨Nat.le_of_ble_eq_true rfl, Nat.le_of_ble_eq_true rfl⟩) hK hst hnw hS hW tb (by decide) rfl rfl rfl hl.1 rfl (Nat.le_of_ble_eq_true rfl) dL_isStep_207 ⟨Nat.zero_le _, Nat.zero_le _⟩) hS (fun r_170 M_168 H locs hq_169 hW hS => ?_)
        obtain ⟨hq_169a, hq_169b⟩ := hq_169
        rw [hq_169b] at hW
        rw [hq_169a]
        rw [show (zf_wi (b + 1) M w 0) = (nI 1) from (by show zm_h (M (b + 1 + 5 * w + 4) 0) = _; rw [h0]; rfl)]
        refine lv_iconst (v := (nI 1)) hx hb dL_isStep_210 (by decide) ?_
        refine lv_icmp_ne (tgt := 218) hx hb dL_isStep_211 (by decide) (fun c_171 => ?_) (fun c_171 => ?_)
        · exact absurd rfl c_171
        · refine lv_iconst (v := (nI 1)) hx hb dL_isStep_214 (by decide) ?_
          refine lv_goto (tgt := 219) hx hb dL_isStep_215 (by decide) ?_
          refine lv_istore (lv' := [(7, .int (nI 1)), (6, .int (nI 1)), (5, .int (nI w)), (4, .int vz), (0, .ref b), (1, .ref bp), (2, .int vx), (3, .int vy)]) hx hb dL_isStep_219 hl (by decide) rfl (fun ls hl => ?_)
          refine lv_aload_n hx hb dL_isStep_221 rfl (lv_at hl 4 rfl) ?_
          refine lv_iload hx hb dL_isStep_222 (lv_at hl 2 rfl) ?_
          refine lv_iload hx hb dL_isStep_224 (lv_at hl 1 rfl) ?_
          refine xc_i (xr_V (As := [.int (nI w), .int (nI 1)]) (rest := []) (κ := 16) ⟨hx, hb, hml, hown, hts⟩ (cz_window l O M b tb hpb hw (v := nI 1) xb_1) (cwV 2 hts gL_isStep_X6_window rfl rfl rfl (by decide +kernel) ⟨Nat.le_of_ble_eq_true rfl, Nat.le_of_ble_eq_true rfl⟩) hK hst hnw hS hW tb (by decide) rfl rfl rfl hl.1 rfl (Nat.le_of_ble_eq_true rfl) dL_isStep_226 ⟨Nat.zero_le _, Nat.zero_le _⟩) hS (fun r_174 M_172 H locs hq_173 hW hS => ?_)
          rcases hq_173 with ⟨e1, e2, e3⟩ | ⟨e1, e2, hq1, -⟩
          · rw [e3] at hW
            rw [e2]
            refine lv_istore (lv' := [(8, .int (-5)), (7, .int (nI 1)), (6, .int (nI 1)), (5, .int (nI w)), (4, .int vz), (0, .ref b), (1, .ref bp), (2, .int vx), (3, .int vy)]) hx hb dL_isStep_229 hl (by decide) rfl (fun ls hl => ?_)
            refine lv_iconst (v := (nI 0)) hx hb dL_isStep_231 (by decide) ?_
            refine lv_istore (lv' := [(9, .int (nI 0)), (8, .int (-5)), (7, .int (nI 1)), (6, .int (nI 1)), (5, .int (nI w)), (4, .int vz), (0, .ref b), (1, .ref bp), (2, .int vx), (3, .int vy)]) hx hb dL_isStep_232 hl (by decide) rfl (fun ls hl => ?_)
            refine lv_iconst (v := (nI 0)) hx hb dL_isStep_234 (by decide) ?_
            refine lv_istore (lv' := [(10, .int (nI 0)), (9, .int (nI 0)), (8, .int (-5)), (7, .int (nI 1)), (6, .int (nI 1)), (5, .int (nI w)), (4, .int vz), (0, .ref b), (1, .ref bp), (2, .int vx), (3, .int vy)]) hx hb dL_isStep_235 hl (by decide) rfl (fun ls hl => ?_)
            refine xl_up (σ := Unit) 6 (fun kk zz H locs ls => xw_D G g τ M H ∧ va_S A s.heap H locs ∧ lv_has ls 12 [(10, .int (nI kk)), (9, .int (xf_sum (fun k => zm_h (M (b + 1 + 5 * k + 4) 0)) kk)), (8, .int (-5)), (7, .int (nI 1)), (6, .int (nI 1)), (5, .int (nI w)), (4, .int vz), (2, .int vx), (3, .int vy), (0, .ref b), (1, .ref bp)] ∧ True) (fun z237 H locs ls hI => ?_) (fun k237 z237 H locs ls hk237 hI ih237 => ?_) (k0 := 0) (z0 := ()) (Nat.zero_le _) ⟨hW, hS, lv_sub hl [0, 1, 2, 3, 4, 5, 6, 9, 10, 7, 8] rfl, trivial⟩
            · obtain ⟨hW, hS, hl, hE237⟩ := hI
              refine lv_iload hx hb dL_isStep_237 (lv_at hl 0 rfl) ?_
              refine lv_bipush (v := (nI 6)) hx hb dL_isStep_239 (by decide) ?_
              refine lv_icmp_ge (tgt := 262) hx hb dL_isStep_241 (by decide) (fun c_175 => ?_) (fun c_175 => ?_)
              · refine lv_iload hx hb dL_isStep_262 (lv_at hl 2 rfl) ?_
                refine lv_aload_n hx hb dL_isStep_264 rfl (lv_at hl 10 rfl) ?_
                refine lv_iload hx hb dL_isStep_265 (lv_at hl 5 rfl) ?_
                refine lv_iload hx hb dL_isStep_267 (lv_at hl 4 rfl) ?_
                refine xc_i (xr_V (As := [.int (nI w), .int (nI 1)]) (rest := [.int (-5)]) (κ := 16) ⟨hx, hb, hml, hown, hts⟩ (cz_window l O M bp tp hpc hw (v := nI 1) xb_1) (cwV 2 hts gL_isStep_X6_window rfl rfl rfl (by decide +kernel) ⟨Nat.le_of_ble_eq_true rfl, Nat.le_of_ble_eq_true rfl⟩) hK hst hnw hS hW tp (by decide) rfl rfl rfl hl.1 rfl (Nat.le_of_ble_eq_true rfl) dL_isStep_269 ⟨Nat.zero_le _, Nat.zero_le _⟩) hS (fun r_178 M_176 H locs hq_177 hW hS => ?_)
                rcases hq_177 with ⟨e1, e2, e3⟩ | ⟨e1, e2, hq2, -⟩
                · rw [e3] at hW
                  rw [e2]
                  refine lv_icmp_ne (tgt := 319) hx hb dL_isStep_272 (by decide) (fun c_179 => ?_) (fun c_179 => ?_)
                  · exact absurd rfl c_179
                  · refine lv_iload hx hb dL_isStep_275 (lv_at hl 2 rfl) ?_
                    refine lv_iload hx hb dL_isStep_277 (lv_at hl 4 rfl) ?_
                    refine lv_iload hx hb dL_isStep_279 (lv_at hl 3 rfl) ?_
                    refine lv_icmp_ne (tgt := 289) hx hb dL_isStep_281 (by decide) (fun c_180 => ?_) (fun c_180 => ?_)
                    · exact absurd rfl c_180
                    · refine lv_bipush (v := (-5)) hx hb dL_isStep_284 (by decide) ?_
                      refine lv_goto (tgt := 291) hx hb dL_isStep_286 (by decide) ?_
                      refine lv_icmp_ne (tgt := 319) hx hb dL_isStep_291 (by decide) (fun c_181 => ?_) (fun c_181 => ?_)
                      · exact absurd c_181 (fun z => z rfl)
                      · refine lv_aload_n hx hb dL_isStep_294 rfl (lv_at hl 9 rfl) ?_
                        refine lv_iload hx hb dL_isStep_295 (lv_at hl 5 rfl) ?_
                        refine lv_iconst (v := (nI 0)) hx hb dL_isStep_297 (by decide) ?_
                        refine xc_i (xr_V (As := [.int (nI w), .int (nI 0)]) (rest := []) (κ := 16) ⟨hx, hb, hml, hown, hts⟩ (cz_windowOf l O M b tb (w := w) (jj := 0) hw (by omega)) (cwV 2 hts gL_isStep_X6_windowOf rfl rfl rfl (by decide +kernel) ⟨Nat.le_of_ble_eq_true rfl, Nat.le_of_ble_eq_true rfl⟩) hK hst hnw hS hW tb (by decide) rfl rfl rfl hl.1 rfl (Nat.le_of_ble_eq_true rfl) dL_isStep_298 ⟨Nat.zero_le _, Nat.zero_le _⟩) hS (fun r_184 M_182 H locs hq_183 hW hS => ?_)
                        obtain ⟨hq_183a, hq_183b⟩ := hq_183
                        rw [hq_183b] at hW
                        rw [hq_183a]
                        rw [show (zf_wi (b + 1) M w 0) = (nI 1) from (by show zm_h (M (b + 1 + 5 * w + 4) 0) = _; rw [h0]; rfl)]
                        refine lv_iconst (v := (nI 1)) hx hb dL_isStep_301 (by decide) ?_
                        refine lv_icmp_ne (tgt := 309) hx hb dL_isStep_302 (by decide) (fun c_185 => ?_) (fun c_185 => ?_)
                        · exact absurd rfl c_185
                        · refine lv_iconst (v := (nI 1)) hx hb dL_isStep_305 (by decide) ?_
                          refine lv_goto (tgt := 310) hx hb dL_isStep_306 (by decide) ?_
                          refine lv_iload hx hb dL_isStep_310 (lv_at hl 4 rfl) ?_
                          refine lv_icmp_ne (tgt := 319) hx hb dL_isStep_312 (by decide) (fun c_186 => ?_) (fun c_186 => ?_)
                          · exact absurd c_186 (fun z => z rfl)
                          · refine lv_iconst (v := (nI 1)) hx hb dL_isStep_315 (by decide) ?_
                            refine lv_goto (tgt := 320) hx hb dL_isStep_316 (by decide) ?_
                            exact W.zret (v := (nI 1)) hx hb hr rfl (fun t ht hWm => ⟨⟨(nI 1), M, rfl, ⟨rfl, zL_up hL⟩, xw_end ht hW⟩, hS.F ht⟩) hS.2.2 dL_isStep_320
                · exact absurd h0p e1
              · exact absurd (nI_le (Nat.le_refl _) (by decide)) c_175
            · obtain ⟨hW, hS, hl, hE237⟩ := hI
              refine lv_iload hx hb dL_isStep_237 (lv_at hl 0 rfl) ?_
              refine lv_bipush (v := (nI 6)) hx hb dL_isStep_239 (by decide) ?_
              refine lv_icmp_ge (tgt := 262) hx hb dL_isStep_241 (by decide) (fun c_187 => ?_) (fun c_187 => ?_)
              · exact absurd c_187 (nI_ge hk237 (by decide))
              · refine lv_iload hx hb dL_isStep_244 (lv_at hl 1 rfl) ?_
                refine lv_aload_n hx hb dL_isStep_246 rfl (lv_at hl 9 rfl) ?_
                refine lv_iload hx hb dL_isStep_247 (lv_at hl 0 rfl) ?_
                refine lv_iconst (v := (nI 0)) hx hb dL_isStep_249 (by decide) ?_
                refine xc_i (xr_V (As := [.int (nI k237), .int (nI 0)]) (rest := [.int (xf_sum (fun k => zm_h (M (b + 1 + 5 * k + 4) 0)) k237)]) (κ := 16) ⟨hx, hb, hml, hown, hts⟩ (cz_windowOf l O M b tb (w := k237) (jj := 0) hk237 (by omega)) (cwV 2 hts gL_isStep_X6_windowOf rfl rfl rfl (by decide +kernel) ⟨Nat.le_of_ble_eq_true rfl, Nat.le_of_ble_eq_true rfl⟩) hK hst hnw hS hW tb (by decide) rfl rfl rfl hl.1 rfl (Nat.le_of_ble_eq_true rfl) dL_isStep_250 ⟨Nat.zero_le _, Nat.zero_le _⟩) hS (fun r_190 M_188 H locs hq_189 hW hS => ?_)
                obtain ⟨hq_189a, hq_189b⟩ := hq_189
                rw [hq_189b] at hW
                rw [hq_189a]
                refine lv_iadd hx hb dL_isStep_253 ?_
                refine lv_istore (lv' := [(9, .int ((xf_sum (fun k => zm_h (M (b + 1 + 5 * k + 4) 0)) k237) + (zf_wi (b + 1) M k237 0))), (10, .int (nI k237)), (8, .int (-5)), (7, .int (nI 1)), (6, .int (nI 1)), (5, .int (nI w)), (4, .int vz), (2, .int vx), (3, .int vy), (0, .ref b), (1, .ref bp)]) hx hb dL_isStep_254 hl (by decide) rfl (fun ls hl => ?_)
                refine lv_iinc (v := (nI (k237 + 1))) (lv' := [(10, .int (nI (k237 + 1))), (9, .int ((xf_sum (fun k => zm_h (M (b + 1 + 5 * k + 4) 0)) k237) + (zf_wi (b + 1) M k237 0))), (8, .int (-5)), (7, .int (nI 1)), (6, .int (nI 1)), (5, .int (nI w)), (4, .int vz), (2, .int vx), (3, .int vy), (0, .ref b), (1, .ref bp)]) hx hb dL_isStep_256 hl (k := 1) rfl ((nI_1 k237)) (by decide) rfl (fun ls hl => ?_)
                refine lv_goto (tgt := 237) hx hb dL_isStep_259 (by decide) ?_
                exact ih237 () _ _ _ ⟨hW, hS, lv_sub hl [0, 1, 2, 3, 4, 5, 6, 7, 8, 9, 10] rfl, trivial⟩
          · exact absurd h0 e1
  · refine lv_tableIn (off := 301) (tgt := 321) hx hb dL_isStep_20 (by decide) (by decide) (by decide) (by decide) ?_
    refine lv_aload_n hx hb dL_isStep_321 rfl (lv_at hl 2 rfl) ?_
    refine lv_iload hx hb dL_isStep_322 (lv_at hl 0 rfl) ?_
    refine lv_iconst (v := (nI 1)) hx hb dL_isStep_324 (by decide) ?_
    refine xc_i (xr_V (As := [.int (nI w), .int (nI 1)]) (rest := []) (κ := 16) ⟨hx, hb, hml, hown, hts⟩ (cz_windowOf l O M b tb (w := w) (jj := 1) hw (by omega)) (cwV 2 hts gL_isStep_X6_windowOf rfl rfl rfl (by decide +kernel) ⟨Nat.le_of_ble_eq_true rfl, Nat.le_of_ble_eq_true rfl⟩) hK hst hnw hS hW tb (by decide) rfl rfl rfl hl.1 rfl (Nat.le_of_ble_eq_true rfl) dL_isStep_325 ⟨Nat.zero_le _, Nat.zero_le _⟩) hS (fun r_193 M_191 H locs hq_192 hW hS => ?_)
    obtain ⟨hq_192a, hq_192b⟩ := hq_192
    rw [hq_192b] at hW
    rw [hq_192a]
    rw [show (zf_wi (b + 1) M w 1) = (M (b + 1 + 5 * w + 4) 1) from rfl]
    refine lv_istore (lv' := [(6, .int (M (b + 1 + 5 * w + 4) 1)), (5, .int (nI w)), (4, .int vz), (0, .ref b), (1, .ref bp), (2, .int vx), (3, .int vy)]) hx hb dL_isStep_328 hl (by decide) rfl (fun ls hl => ?_)
    refine lv_iload_n hx hb dL_isStep_330 rfl (lv_at hl 6 rfl) ?_
    refine lv_iconst (v := (nI 4)) hx hb dL_isStep_331 (by decide) ?_
    refine xc_i (xr_S (As := [.int vy, .int (nI 4)]) (rest := []) ⟨hx, hb, hml, hown, hts⟩ (c_L_up l O M vy (n := 4) (by omega) (by omega)) (va_cwS 2 hts gL_isStep_L_up rfl rfl rfl (by decide +kernel) ⟨Nat.le_of_ble_eq_true rfl, Nat.le_of_ble_eq_true rfl⟩) hK hst hnw hS hW rfl hl.1 rfl (Nat.le_of_ble_eq_true rfl) dL_isStep_332 ⟨Nat.zero_le _, Nat.zero_le _⟩) hS (fun r_196 M_194 H locs hq_195 hW hS => ?_)
    obtain ⟨hq_195a, hq_195b⟩ := hq_195
    rw [hq_195b] at hW
    rw [hq_195a]
    obtain ⟨q4, hq4, eq4⟩ : ∃ q, q < 4 ∧ zu_u vy 4 = q := ⟨_, zu_lt (by omega), rfl⟩
    rw [eq4]
    refine lv_istore (lv' := [(7, .int (nI q4)), (6, .int (M (b + 1 + 5 * w + 4) 1)), (5, .int (nI w)), (4, .int vz), (0, .ref b), (1, .ref bp), (2, .int vx), (3, .int vy)]) hx hb dL_isStep_335 hl (by decide) rfl (fun ls hl => ?_)
    refine lv_aload_n hx hb dL_isStep_337 rfl (lv_at hl 4 rfl) ?_
    refine lv_iload hx hb dL_isStep_338 (lv_at hl 2 rfl) ?_
    refine lv_iconst (v := (nI 4)) hx hb dL_isStep_340 (by decide) ?_
    refine xc_i (xr_V (As := [.int (nI w), .int (nI 4)]) (rest := []) (κ := 16) ⟨hx, hb, hml, hown, hts⟩ (cz_windowOf l O M b tb (w := w) (jj := 4) hw (by omega)) (cwV 2 hts gL_isStep_X6_windowOf rfl rfl rfl (by decide +kernel) ⟨Nat.le_of_ble_eq_true rfl, Nat.le_of_ble_eq_true rfl⟩) hK hst hnw hS hW tb (by decide) rfl rfl rfl hl.1 rfl (Nat.le_of_ble_eq_true rfl) dL_isStep_341 ⟨Nat.zero_le _, Nat.zero_le _⟩) hS (fun r_199 M_197 H locs hq_198 hW hS => ?_)
    obtain ⟨hq_198a, hq_198b⟩ := hq_198
    rw [hq_198b] at hW
    rw [hq_198a]
    rw [show (zf_wi (b + 1) M w 4) = (M (b + 1 + 5 * w + 7) 1) from rfl]
    refine lv_istore (lv' := [(8, .int (M (b + 1 + 5 * w + 7) 1)), (7, .int (nI q4)), (6, .int (M (b + 1 + 5 * w + 4) 1)), (5, .int (nI w)), (4, .int vz), (0, .ref b), (1, .ref bp), (2, .int vx), (3, .int vy)]) hx hb dL_isStep_344 hl (by decide) rfl (fun ls hl => ?_)
    refine lv_aload_n hx hb dL_isStep_346 rfl (lv_at hl 5 rfl) ?_
    refine lv_iload hx hb dL_isStep_347 (lv_at hl 3 rfl) ?_
    refine lv_iload hx hb dL_isStep_349 (lv_at hl 1 rfl) ?_
    refine xc_i (xr_V (As := [.int (nI w), .int (nI q4)]) (rest := []) (κ := 16) ⟨hx, hb, hml, hown, hts⟩ (cz_clerks l O M b tb hpb (cc := q4) hw (by omega)) (cwV 2 hts gL_isStep_X6_clerks rfl rfl rfl (by decide +kernel) ⟨Nat.le_of_ble_eq_true rfl, Nat.le_of_ble_eq_true rfl⟩) hK hst hnw hS hW tb (by decide) rfl rfl rfl hl.1 rfl (Nat.le_of_ble_eq_true rfl) dL_isStep_351 ⟨Nat.zero_le _, Nat.zero_le _⟩) hS (fun r_202 M_200 H locs hq_201 hW hS => ?_)
    obtain ⟨hq_201a, hq1, -⟩ := hq_201
    rw [hq_201a]
    have hpc1 : zp bp M_200 := zp_fr hpc (fun x z1 z2 => hq1.2.1 x (by omega))
    refine lv_iload hx hb dL_isStep_354 (lv_at hl 2 rfl) ?_
    refine lv_icmp_ne (tgt := 400) hx hb dL_isStep_356 (by decide) (fun c_203 => ?_) (fun c_203 => ?_)
    · exact absurd c_203 (fun z => z rfl)
    · refine lv_aload_n hx hb dL_isStep_359 rfl (lv_at hl 6 rfl) ?_
      refine lv_iload hx hb dL_isStep_360 (lv_at hl 3 rfl) ?_
      refine lv_iload hx hb dL_isStep_362 (lv_at hl 1 rfl) ?_
      refine xc_i (xr_V (As := [.int (nI w), .int (nI q4)]) (rest := []) (κ := 16) ⟨hx, hb, hml, hown, hts⟩ (cz_clerks l O M_200 bp tp hpc1 (cc := q4) hw (by omega)) (cwV 2 hts gL_isStep_X6_clerks rfl rfl rfl (by decide +kernel) ⟨Nat.le_of_ble_eq_true rfl, Nat.le_of_ble_eq_true rfl⟩) hK hst hnw hS hW tp (by decide) rfl rfl rfl hl.1 rfl (Nat.le_of_ble_eq_true rfl) dL_isStep_364 ⟨Nat.zero_le _, Nat.zero_le _⟩) hS (fun r_206 M_204 H locs hq_205 hW hS => ?_)
      obtain ⟨hq_205a, hq2, -⟩ := hq_205
      rw [hq_205a, show M_200 (bp + 1 + 5 * w + 4) 1 = (M (b + 1 + 5 * w + 4) 1) from (by rw [hq1.2.1 _ (by omega)]; exact congrFun (zc_V hg hw) 1)]
      refine lv_iload hx hb dL_isStep_367 (lv_at hl 2 rfl) ?_
      refine lv_icmp_ne (tgt := 400) hx hb dL_isStep_369 (by decide) (fun c_207 => ?_) (fun c_207 => ?_)
      · exact absurd c_207 (fun z => z rfl)
      · refine lv_aload_n hx hb dL_isStep_372 rfl (lv_at hl 5 rfl) ?_
        refine lv_iload hx hb dL_isStep_373 (lv_at hl 3 rfl) ?_
        refine lv_iconst (v := (nI 1)) hx hb dL_isStep_375 (by decide) ?_
        refine xc_i (xr_V (As := [.int (nI w), .int (nI 1)]) (rest := []) (κ := 16) ⟨hx, hb, hml, hown, hts⟩ (cz_windowOf l O M_204 b tb (w := w) (jj := 1) hw (by omega)) (cwV 2 hts gL_isStep_X6_windowOf rfl rfl rfl (by decide +kernel) ⟨Nat.le_of_ble_eq_true rfl, Nat.le_of_ble_eq_true rfl⟩) hK hst hnw hS hW tb (by decide) rfl rfl rfl hl.1 rfl (Nat.le_of_ble_eq_true rfl) dL_isStep_376 ⟨Nat.zero_le _, Nat.zero_le _⟩) hS (fun r_210 M_208 H locs hq_209 hW hS => ?_)
        obtain ⟨hq_209a, hq_209b⟩ := hq_209
        rw [hq_209b] at hW
        rw [hq_209a]
        rw [show (zf_wi (b + 1) M_204 w 1) = (nI q4) from (by show M_204 (b + 1 + 5 * w + 4) 1 = _; rw [hq2.2.1 _ (by omega), hq1.2.2.1 _ (by omega) (by omega)]; exact xu_s _ _ _ _)]
        refine lv_iload hx hb dL_isStep_379 (lv_at hl 1 rfl) ?_
        refine lv_icmp_ne (tgt := 400) hx hb dL_isStep_381 (by decide) (fun c_211 => ?_) (fun c_211 => ?_)
        · exact absurd c_211 (fun z => z rfl)
        · refine lv_aload_n hx hb dL_isStep_384 rfl (lv_at hl 5 rfl) ?_
          refine lv_iload hx hb dL_isStep_385 (lv_at hl 3 rfl) ?_
          refine lv_iconst (v := (nI 4)) hx hb dL_isStep_387 (by decide) ?_
          refine xc_i (xr_V (As := [.int (nI w), .int (nI 4)]) (rest := []) (κ := 16) ⟨hx, hb, hml, hown, hts⟩ (cz_windowOf l O M_204 b tb (w := w) (jj := 4) hw (by omega)) (cwV 2 hts gL_isStep_X6_windowOf rfl rfl rfl (by decide +kernel) ⟨Nat.le_of_ble_eq_true rfl, Nat.le_of_ble_eq_true rfl⟩) hK hst hnw hS hW tb (by decide) rfl rfl rfl hl.1 rfl (Nat.le_of_ble_eq_true rfl) dL_isStep_388 ⟨Nat.zero_le _, Nat.zero_le _⟩) hS (fun r_214 M_212 H locs hq_213 hW hS => ?_)
          obtain ⟨hq_213a, hq_213b⟩ := hq_213
          rw [hq_213b] at hW
          rw [hq_213a]
          rw [show (zf_wi (b + 1) M_204 w 4) = (M (b + 1 + 5 * w + 7) 1) from (by show M_204 (b + 1 + 5 * w + 7) 1 = _; rw [hq2.2.1 _ (by omega), hq1.2.2.1 _ (by omega) (by omega), xu_n _ (Or.inl (by omega))])]
          refine lv_iload hx hb dL_isStep_391 (lv_at hl 0 rfl) ?_
          refine lv_icmp_ne (tgt := 400) hx hb dL_isStep_393 (by decide) (fun c_215 => ?_) (fun c_215 => ?_)
          · exact absurd c_215 (fun z => z rfl)
          · refine lv_iconst (v := (nI 1)) hx hb dL_isStep_396 (by decide) ?_
            refine lv_goto (tgt := 401) hx hb dL_isStep_397 (by decide) ?_
            exact W.zret (v := (nI 1)) hx hb hr rfl (fun t ht hWm => ⟨⟨(nI 1), M_204, rfl, ⟨rfl, zL_chg hbc hL hq1 hq2 (((zZ_rf (zL_g1 hbc hg hq1)).up (5 * w + 4) (by omega) (by omega) (by omega) 1 rfl).1) ⟨nn, TT, by omega, (zi_win hz hw (by omega)).mono (Nat.le_refl _) (by omega)⟩⟩, xw_end ht hW⟩, hS.F ht⟩) hS.2.2 dL_isStep_401
  · refine lv_tableIn (off := 382) (tgt := 402) hx hb dL_isStep_20 (by decide) (by decide) (by decide) (by decide) ?_
    obtain ⟨xq, xq20, xqM⟩ := hz.1.2.2.2.2
    obtain ⟨yq, yqB, yqM⟩ := zi_hb hz hw
    refine lv_aload_n hx hb dL_isStep_402 rfl (lv_at hl 2 rfl) ?_
    refine lv_iload hx hb dL_isStep_403 (lv_at hl 0 rfl) ?_
    refine lv_iconst (v := (nI 2)) hx hb dL_isStep_405 (by decide) ?_
    refine xc_i (xr_V (As := [.int (nI w), .int (nI 2)]) (rest := []) (κ := 16) ⟨hx, hb, hml, hown, hts⟩ (cz_windowOf l O M b tb (w := w) (jj := 2) hw (by omega)) (cwV 2 hts gL_isStep_X6_windowOf rfl rfl rfl (by decide +kernel) ⟨Nat.le_of_ble_eq_true rfl, Nat.le_of_ble_eq_true rfl⟩) hK hst hnw hS hW tb (by decide) rfl rfl rfl hl.1 rfl (Nat.le_of_ble_eq_true rfl) dL_isStep_406 ⟨Nat.zero_le _, Nat.zero_le _⟩) hS (fun r_218 M_216 H locs hq_217 hW hS => ?_)
    obtain ⟨hq_217a, hq_217b⟩ := hq_217
    rw [hq_217b] at hW
    rw [hq_217a]
    rw [show (zf_wi (b + 1) M w 2) = (nI yq) from yqM]
    refine lv_istore (lv' := [(6, .int (nI yq)), (5, .int (nI w)), (4, .int vz), (0, .ref b), (1, .ref bp), (2, .int vx), (3, .int vy)]) hx hb dL_isStep_409 hl (by decide) rfl (fun ls hl => ?_)
    refine lv_aload_n hx hb dL_isStep_411 rfl (lv_at hl 3 rfl) ?_
    refine lv_iconst (v := (nI 1)) hx hb dL_isStep_412 (by decide) ?_
    refine xc_i (xr_V (As := [.int (nI 1)]) (rest := []) (κ := 16) ⟨hx, hb, hml, hown, hts⟩ (cz_count l O M b tb (jj := 1) (by omega)) (cwV 1 hts gL_isStep_X6_count rfl rfl rfl (by decide +kernel) ⟨Nat.le_of_ble_eq_true rfl, Nat.le_of_ble_eq_true rfl⟩) hK hst hnw hS hW tb (by decide) rfl rfl rfl hl.1 rfl (Nat.le_of_ble_eq_true rfl) dL_isStep_413 ⟨Nat.zero_le _, Nat.zero_le _⟩) hS (fun r_221 M_219 H locs hq_220 hW hS => ?_)
    obtain ⟨hq_220a, hq_220b⟩ := hq_220
    rw [hq_220b] at hW
    rw [hq_220a]
    rw [show (zf_co (b + 1) M 1) = (nI xq) from xqM]
    refine lv_iload hx hb dL_isStep_416 (lv_at hl 0 rfl) ?_
    refine lv_icmp_le (tgt := 432) hx hb dL_isStep_418 (by decide) (fun c_222 => ?_) (fun c_222 => ?_)
    · have xyq : xq ≤ yq := (nI_leI (by omega) (by omega)).mp c_222
      refine lv_iconst (v := (nI 0)) hx hb dL_isStep_432 (by decide) ?_
      rw [show nI 0 = nI (xq - yq) by congr 1; omega]
      refine lv_istore (lv' := [(7, .int (nI (xq - yq))), (6, .int (nI yq)), (5, .int (nI w)), (4, .int vz), (0, .ref b), (1, .ref bp), (2, .int vx), (3, .int vy)]) hx hb dL_isStep_433 hl (by decide) rfl (fun ls hl => ?_)
      refine lv_aload_n hx hb dL_isStep_435 rfl (lv_at hl 4 rfl) ?_
      refine lv_iload hx hb dL_isStep_436 (lv_at hl 2 rfl) ?_
      refine xc_i (xr_V (As := [.int (nI w)]) (rest := []) (κ := 16) ⟨hx, hb, hml, hown, hts⟩ (cz_bring l O M b tb hpb hz (by omega) hw) (cwV 1 hts gL_isStep_X6_bring rfl rfl rfl (by decide +kernel) ⟨Nat.le_of_ble_eq_true rfl, Nat.le_of_ble_eq_true rfl⟩) hK hst hnw hS hW tb (by decide) rfl rfl rfl hl.1 rfl (Nat.le_of_ble_eq_true rfl) dL_isStep_438 ⟨Nat.zero_le _, Nat.zero_le _⟩) hS (fun r_225 M_223 H locs hq_224 hW hS => ?_)
      obtain ⟨x1, y1, hx1, hy1, ex1, ey1, er1, hq1, -⟩ := hq_224
      rw [zI_inj (by omega) (by omega) (ex1.symm.trans xqM), zI_inj (a := y1) (by omega) (by omega) (ey1.symm.trans yqM)] at er1 hq1
      rw [er1]
      have hpc1 : zp bp M_223 := zp_fr hpc (fun x z1 z2 => hq1.2.1 x (by omega))
      have hz1 : zi (bp + 1) M_223 nn TT TT (20 + 14256 * NN) := zi_g hz (zL_g1 hbc hg hq1)
      refine lv_iload hx hb dL_isStep_441 (lv_at hl 0 rfl) ?_
      refine lv_icmp_ne (tgt := 476) hx hb dL_isStep_443 (by decide) (fun c_226 => ?_) (fun c_226 => ?_)
      · exact absurd c_226 (fun z => z rfl)
      · refine lv_aload_n hx hb dL_isStep_446 rfl (lv_at hl 5 rfl) ?_
        refine lv_iload hx hb dL_isStep_447 (lv_at hl 2 rfl) ?_
        refine xc_i (xr_V (As := [.int (nI w)]) (rest := []) (κ := 16) ⟨hx, hb, hml, hown, hts⟩ (cz_bring l O M_223 bp tp hpc1 hz1 (by omega) hw) (cwV 1 hts gL_isStep_X6_bring rfl rfl rfl (by decide +kernel) ⟨Nat.le_of_ble_eq_true rfl, Nat.le_of_ble_eq_true rfl⟩) hK hst hnw hS hW tp (by decide) rfl rfl rfl hl.1 rfl (Nat.le_of_ble_eq_true rfl) dL_isStep_449 ⟨Nat.zero_le _, Nat.zero_le _⟩) hS (fun r_229 M_227 H locs hq_228 hW hS => ?_)
        obtain ⟨x2, y2, hx2, hy2, ex2, ey2, er2, hq2, -⟩ := hq_228
        have ex3 : x2 = xq := zI_inj (by omega) (by omega) (ex2.symm.trans (by rw [hq1.2.1 _ (by omega)]; exact ((congrFun (hg 1 (by omega)) 1).symm.trans xqM)))
        have ey3 : y2 = yq := zI_inj (by omega) (by omega) (ey2.symm.trans (by rw [hq1.2.1 _ (by omega)]; exact (congrFun (zc_V hg hw) 2).trans yqM))
        rw [ex3, ey3] at er2 hq2
        rw [er2]
        refine lv_iload hx hb dL_isStep_452 (lv_at hl 0 rfl) ?_
        refine lv_icmp_ne (tgt := 476) hx hb dL_isStep_454 (by decide) (fun c_230 => ?_) (fun c_230 => ?_)
        · exact absurd c_230 (fun z => z rfl)
        · refine lv_aload_n hx hb dL_isStep_457 rfl (lv_at hl 4 rfl) ?_
          refine lv_iload hx hb dL_isStep_458 (lv_at hl 2 rfl) ?_
          refine lv_iconst (v := (nI 2)) hx hb dL_isStep_460 (by decide) ?_
          refine xc_i (xr_V (As := [.int (nI w), .int (nI 2)]) (rest := []) (κ := 16) ⟨hx, hb, hml, hown, hts⟩ (cz_windowOf l O M_227 b tb (w := w) (jj := 2) hw (by omega)) (cwV 2 hts gL_isStep_X6_windowOf rfl rfl rfl (by decide +kernel) ⟨Nat.le_of_ble_eq_true rfl, Nat.le_of_ble_eq_true rfl⟩) hK hst hnw hS hW tb (by decide) rfl rfl rfl hl.1 rfl (Nat.le_of_ble_eq_true rfl) dL_isStep_461 ⟨Nat.zero_le _, Nat.zero_le _⟩) hS (fun r_233 M_231 H locs hq_232 hW hS => ?_)
          obtain ⟨hq_232a, hq_232b⟩ := hq_232
          rw [hq_232b] at hW
          rw [hq_232a]
          rw [show (zf_wi (b + 1) M_227 w 2) = ((nI yq) + (nI (xq - yq))) from (by show M_227 (b + 1 + 5 * w + 4) 2 = _; rw [hq2.2.1 _ (by omega), hq1.2.2.1 _ (by omega) (by omega), xu_n _ (Or.inl (by omega)), xu_s, yqM])]
          refine lv_iload hx hb dL_isStep_464 (lv_at hl 1 rfl) ?_
          refine lv_iload hx hb dL_isStep_466 (lv_at hl 0 rfl) ?_
          refine lv_iadd hx hb dL_isStep_468 ?_
          refine lv_icmp_ne (tgt := 476) hx hb dL_isStep_469 (by decide) (fun c_234 => ?_) (fun c_234 => ?_)
          · exact absurd c_234 (fun z => z rfl)
          · refine lv_iconst (v := (nI 1)) hx hb dL_isStep_472 (by decide) ?_
            refine lv_goto (tgt := 477) hx hb dL_isStep_473 (by decide) ?_
            exact W.zret (v := (nI 1)) hx hb hr rfl (fun t ht hWm => ⟨⟨(nI 1), M_227, rfl, ⟨rfl, zL_chg hbc hL hq1 hq2 (((zZ_rf (zL_g1 hbc hg hq1)).up (5 * w + 4) (by omega) (by omega) (by omega) 2 (by rw [zc_V (zL_g1 hbc hg hq1) hw])).up 0 (by omega) (by omega) (by omega) 6 (congrArg (· + nI (xq - yq)) (congrFun ((zL_g1 hbc hg hq1) 0 (by omega)) 6))).1 ⟨nn, TT, by omega, (zi_bri hz hw (by omega) ⟨yq + (xq - yq), by omega, by rw [yqM]; exact nI_add _ _⟩).mono (Nat.le_refl _) (by omega)⟩⟩, xw_end ht hW⟩, hS.F ht⟩) hS.2.2 dL_isStep_477
    · have xyq : yq ≤ xq := by rcases Nat.lt_or_ge xq yq with q | q; exact absurd (nI_le (Nat.le_of_lt q) (by omega)) c_222; exact q
      refine lv_aload_n hx hb dL_isStep_421 rfl (lv_at hl 3 rfl) ?_
      refine lv_iconst (v := (nI 1)) hx hb dL_isStep_422 (by decide) ?_
      refine xc_i (xr_V (As := [.int (nI 1)]) (rest := []) (κ := 16) ⟨hx, hb, hml, hown, hts⟩ (cz_count l O M b tb (jj := 1) (by omega)) (cwV 1 hts gL_isStep_X6_count rfl rfl rfl (by decide +kernel) ⟨Nat.le_of_ble_eq_true rfl, Nat.le_of_ble_eq_true rfl⟩) hK hst hnw hS hW tb (by decide) rfl rfl rfl hl.1 rfl (Nat.le_of_ble_eq_true rfl) dL_isStep_423 ⟨Nat.zero_le _, Nat.zero_le _⟩) hS (fun r_237 M_235 H locs hq_236 hW hS => ?_)
      obtain ⟨hq_236a, hq_236b⟩ := hq_236
      rw [hq_236b] at hW
      rw [hq_236a]
      rw [show (zf_co (b + 1) M 1) = (nI xq) from xqM]
      refine lv_iload hx hb dL_isStep_426 (lv_at hl 0 rfl) ?_
      refine lv_isub hx hb dL_isStep_428 ?_
      rw [show (nI xq) - (nI yq) = (nI (xq - yq)) from pk_sub xyq]
      refine lv_goto (tgt := 433) hx hb dL_isStep_429 (by decide) ?_
      refine lv_istore (lv' := [(7, .int (nI (xq - yq))), (6, .int (nI yq)), (5, .int (nI w)), (4, .int vz), (0, .ref b), (1, .ref bp), (2, .int vx), (3, .int vy)]) hx hb dL_isStep_433 hl (by decide) rfl (fun ls hl => ?_)
      refine lv_aload_n hx hb dL_isStep_435 rfl (lv_at hl 4 rfl) ?_
      refine lv_iload hx hb dL_isStep_436 (lv_at hl 2 rfl) ?_
      refine xc_i (xr_V (As := [.int (nI w)]) (rest := []) (κ := 16) ⟨hx, hb, hml, hown, hts⟩ (cz_bring l O M b tb hpb hz (by omega) hw) (cwV 1 hts gL_isStep_X6_bring rfl rfl rfl (by decide +kernel) ⟨Nat.le_of_ble_eq_true rfl, Nat.le_of_ble_eq_true rfl⟩) hK hst hnw hS hW tb (by decide) rfl rfl rfl hl.1 rfl (Nat.le_of_ble_eq_true rfl) dL_isStep_438 ⟨Nat.zero_le _, Nat.zero_le _⟩) hS (fun r_240 M_238 H locs hq_239 hW hS => ?_)
      obtain ⟨x1, y1, hx1, hy1, ex1, ey1, er1, hq1, -⟩ := hq_239
      rw [zI_inj (by omega) (by omega) (ex1.symm.trans xqM), zI_inj (a := y1) (by omega) (by omega) (ey1.symm.trans yqM)] at er1 hq1
      rw [er1]
      have hpc1 : zp bp M_238 := zp_fr hpc (fun x z1 z2 => hq1.2.1 x (by omega))
      have hz1 : zi (bp + 1) M_238 nn TT TT (20 + 14256 * NN) := zi_g hz (zL_g1 hbc hg hq1)
      refine lv_iload hx hb dL_isStep_441 (lv_at hl 0 rfl) ?_
      refine lv_icmp_ne (tgt := 476) hx hb dL_isStep_443 (by decide) (fun c_241 => ?_) (fun c_241 => ?_)
      · exact absurd c_241 (fun z => z rfl)
      · refine lv_aload_n hx hb dL_isStep_446 rfl (lv_at hl 5 rfl) ?_
        refine lv_iload hx hb dL_isStep_447 (lv_at hl 2 rfl) ?_
        refine xc_i (xr_V (As := [.int (nI w)]) (rest := []) (κ := 16) ⟨hx, hb, hml, hown, hts⟩ (cz_bring l O M_238 bp tp hpc1 hz1 (by omega) hw) (cwV 1 hts gL_isStep_X6_bring rfl rfl rfl (by decide +kernel) ⟨Nat.le_of_ble_eq_true rfl, Nat.le_of_ble_eq_true rfl⟩) hK hst hnw hS hW tp (by decide) rfl rfl rfl hl.1 rfl (Nat.le_of_ble_eq_true rfl) dL_isStep_449 ⟨Nat.zero_le _, Nat.zero_le _⟩) hS (fun r_244 M_242 H locs hq_243 hW hS => ?_)
        obtain ⟨x2, y2, hx2, hy2, ex2, ey2, er2, hq2, -⟩ := hq_243
        have ex3 : x2 = xq := zI_inj (by omega) (by omega) (ex2.symm.trans (by rw [hq1.2.1 _ (by omega)]; exact ((congrFun (hg 1 (by omega)) 1).symm.trans xqM)))
        have ey3 : y2 = yq := zI_inj (by omega) (by omega) (ey2.symm.trans (by rw [hq1.2.1 _ (by omega)]; exact (congrFun (zc_V hg hw) 2).trans yqM))
        rw [ex3, ey3] at er2 hq2
        rw [er2]
        refine lv_iload hx hb dL_isStep_452 (lv_at hl 0 rfl) ?_
        refine lv_icmp_ne (tgt := 476) hx hb dL_isStep_454 (by decide) (fun c_245 => ?_) (fun c_245 => ?_)
        · exact absurd c_245 (fun z => z rfl)
        · refine lv_aload_n hx hb dL_isStep_457 rfl (lv_at hl 4 rfl) ?_
          refine lv_iload hx hb dL_isStep_458 (lv_at hl 2 rfl) ?_
          refine lv_iconst (v := (nI 2)) hx hb dL_isStep_460 (by decide) ?_
          refine xc_i (xr_V (As := [.int (nI w), .int (nI 2)]) (rest := []) (κ := 16) ⟨hx, hb, hml, hown, hts⟩ (cz_windowOf l O M_242 b tb (w := w) (jj := 2) hw (by omega)) (cwV 2 hts gL_isStep_X6_windowOf rfl rfl rfl (by decide +kernel) ⟨Nat.le_of_ble_eq_true rfl, Nat.le_of_ble_eq_true rfl⟩) hK hst hnw hS hW tb (by decide) rfl rfl rfl hl.1 rfl (Nat.le_of_ble_eq_true rfl) dL_isStep_461 ⟨Nat.zero_le _, Nat.zero_le _⟩) hS (fun r_248 M_246 H locs hq_247 hW hS => ?_)
          obtain ⟨hq_247a, hq_247b⟩ := hq_247
          rw [hq_247b] at hW
          rw [hq_247a]
          rw [show (zf_wi (b + 1) M_242 w 2) = ((nI yq) + (nI (xq - yq))) from (by show M_242 (b + 1 + 5 * w + 4) 2 = _; rw [hq2.2.1 _ (by omega), hq1.2.2.1 _ (by omega) (by omega), xu_n _ (Or.inl (by omega)), xu_s, yqM])]
          refine lv_iload hx hb dL_isStep_464 (lv_at hl 1 rfl) ?_
          refine lv_iload hx hb dL_isStep_466 (lv_at hl 0 rfl) ?_
          refine lv_iadd hx hb dL_isStep_468 ?_
          refine lv_icmp_ne (tgt := 476) hx hb dL_isStep_469 (by decide) (fun c_249 => ?_) (fun c_249 => ?_)
          · exact absurd c_249 (fun z => z rfl)
          · refine lv_iconst (v := (nI 1)) hx hb dL_isStep_472 (by decide) ?_
            refine lv_goto (tgt := 477) hx hb dL_isStep_473 (by decide) ?_
            exact W.zret (v := (nI 1)) hx hb hr rfl (fun t ht hWm => ⟨⟨(nI 1), M_242, rfl, ⟨rfl, zL_chg hbc hL hq1 hq2 (((zZ_rf (zL_g1 hbc hg hq1)).up (5 * w + 4) (by omega) (by omega) (by omega) 2 (by rw [zc_V (zL_g1 hbc hg hq1) hw])).up 0 (by omega) (by omega) (by omega) 6 (congrArg (· + nI (xq - yq)) (congrFun ((zL_g1 hbc hg hq1) 0 (by omega)) 6))).1 ⟨nn, TT, by omega, (zi_bri hz hw (by omega) ⟨yq + (xq - yq), by omega, by rw [yqM]; exact nI_add _ _⟩).mono (Nat.le_refl _) (by omega)⟩⟩, xw_end ht hW⟩, hS.F ht⟩) hS.2.2 dL_isStep_477
  · refine lv_tableIn (off := 458) (tgt := 478) hx hb dL_isStep_20 (by decide) (by decide) (by decide) (by decide) ?_
    refine lv_iload_n hx hb dL_isStep_478 rfl (lv_at hl 5 rfl) ?_
    refine lv_aload_n hx hb dL_isStep_479 rfl (lv_at hl 2 rfl) ?_
    refine lv_iconst (v := (nI 4)) hx hb dL_isStep_480 (by decide) ?_
    refine xc_i (xr_V (As := [.int (nI 4)]) (rest := [.int vy]) (κ := 16) ⟨hx, hb, hml, hown, hts⟩ (cz_count l O M b tb (jj := 4) (by omega)) (cwV 1 hts gL_isStep_X6_count rfl rfl rfl (by decide +kernel) ⟨Nat.le_of_ble_eq_true rfl, Nat.le_of_ble_eq_true rfl⟩) hK hst hnw hS hW tb (by decide) rfl rfl rfl hl.1 rfl (Nat.le_of_ble_eq_true rfl) dL_isStep_481 ⟨Nat.zero_le _, Nat.zero_le _⟩) hS (fun r_252 M_250 H locs hq_251 hW hS => ?_)
    obtain ⟨hq_251a, hq_251b⟩ := hq_251
    rw [hq_251b] at hW
    rw [hq_251a]
    rw [show (zf_co (b + 1) M 4) = (nI nn) from hz.1.2.1]
    refine lv_iconst (v := (nI 1)) hx hb dL_isStep_484 (by decide) ?_
    refine lv_iadd hx hb dL_isStep_485 ?_
    rw [show (nI nn) + (nI 1) = (nI (nn + 1)) from nI_add nn 1]
    refine xc_i (xr_S (As := [.int vy, .int (nI (nn + 1))]) (rest := []) ⟨hx, hb, hml, hown, hts⟩ (c_L_up l O M vy (n := (nn + 1)) (by omega) (by omega)) (va_cwS 2 hts gL_isStep_L_up rfl rfl rfl (by decide +kernel) ⟨Nat.le_of_ble_eq_true rfl, Nat.le_of_ble_eq_true rfl⟩) hK hst hnw hS hW rfl hl.1 rfl (Nat.le_of_ble_eq_true rfl) dL_isStep_486 ⟨Nat.zero_le _, Nat.zero_le _⟩) hS (fun r_255 M_253 H locs hq_254 hW hS => ?_)
    obtain ⟨hq_254a, hq_254b⟩ := hq_254
    rw [hq_254b] at hW
    rw [hq_254a]
    obtain ⟨k, hk, ek⟩ : ∃ q, q < (nn + 1) ∧ zu_u vy (nn + 1) = q := ⟨_, zu_lt (by omega), rfl⟩
    rw [ek]
    refine lv_istore (lv' := [(6, .int (nI k)), (5, .int (nI w)), (4, .int vz), (0, .ref b), (1, .ref bp), (2, .int vx), (3, .int vy)]) hx hb dL_isStep_489 hl (by decide) rfl (fun ls hl => ?_)
    rcases Nat.lt_or_ge k nn with hkn | hkn
    · have hk24 : k < 24 := by omega
      by_cases h30 : M (b + 1 + 2 * k + 34) 3 = nI 0
      · refine lv_aload_n hx hb dL_isStep_491 rfl (lv_at hl 3 rfl) ?_
        refine lv_iload hx hb dL_isStep_492 (lv_at hl 0 rfl) ?_
        refine lv_iconst (v := (nI 0)) hx hb dL_isStep_494 (by decide) ?_
        refine xc_i (xr_V (As := [.int (nI k), .int (nI 0)]) (rest := []) (κ := 16) ⟨hx, hb, hml, hown, hts⟩ (cz_person l O M b tb hz (k := k) (jj := 0) hkn (by omega)) (cwV 2 hts gL_isStep_X6_person rfl rfl rfl (by decide +kernel) ⟨Nat.le_of_ble_eq_true rfl, Nat.le_of_ble_eq_true rfl⟩) hK hst hnw hS hW tb (by decide) rfl rfl rfl hl.1 rfl (Nat.le_of_ble_eq_true rfl) dL_isStep_495 ⟨Nat.zero_le _, Nat.zero_le _⟩) hS (fun r_258 M_256 H locs hq_257 hW hS => ?_)
        obtain ⟨hq_257a, hq_257b⟩ := hq_257
        rw [hq_257b] at hW
        rw [hq_257a]
        refine lv_istore (lv' := [(7, .int (zf_pe (b + 1) M k 0)), (6, .int (nI k)), (5, .int (nI w)), (4, .int vz), (0, .ref b), (1, .ref bp), (2, .int vx), (3, .int vy)]) hx hb dL_isStep_498 hl (by decide) rfl (fun ls hl => ?_)
        refine lv_aload_n hx hb dL_isStep_500 rfl (lv_at hl 4 rfl) ?_
        refine lv_iload hx hb dL_isStep_501 (lv_at hl 1 rfl) ?_
        refine lv_iconst (v := (nI 3)) hx hb dL_isStep_503 (by decide) ?_
        refine xc_i (xr_V (As := [.int (nI k), .int (nI 3)]) (rest := []) (κ := 16) ⟨hx, hb, hml, hown, hts⟩ (cz_person l O M b tb hz (k := k) (jj := 3) hkn (by omega)) (cwV 2 hts gL_isStep_X6_person rfl rfl rfl (by decide +kernel) ⟨Nat.le_of_ble_eq_true rfl, Nat.le_of_ble_eq_true rfl⟩) hK hst hnw hS hW tb (by decide) rfl rfl rfl hl.1 rfl (Nat.le_of_ble_eq_true rfl) dL_isStep_504 ⟨Nat.zero_le _, Nat.zero_le _⟩) hS (fun r_261 M_259 H locs hq_260 hW hS => ?_)
        obtain ⟨hq_260a, hq_260b⟩ := hq_260
        rw [hq_260b] at hW
        rw [hq_260a]
        refine lv_istore (lv' := [(8, .int (zf_pe (b + 1) M k 3)), (7, .int (zf_pe (b + 1) M k 0)), (6, .int (nI k)), (5, .int (nI w)), (4, .int vz), (0, .ref b), (1, .ref bp), (2, .int vx), (3, .int vy)]) hx hb dL_isStep_507 hl (by decide) rfl (fun ls hl => ?_)
        refine lv_aload_n hx hb dL_isStep_509 rfl (lv_at hl 5 rfl) ?_
        refine lv_iload hx hb dL_isStep_510 (lv_at hl 2 rfl) ?_
        refine lv_iconst (v := (nI 4)) hx hb dL_isStep_512 (by decide) ?_
        refine xc_i (xr_V (As := [.int (nI k), .int (nI 4)]) (rest := []) (κ := 16) ⟨hx, hb, hml, hown, hts⟩ (cz_person l O M b tb hz (k := k) (jj := 4) hkn (by omega)) (cwV 2 hts gL_isStep_X6_person rfl rfl rfl (by decide +kernel) ⟨Nat.le_of_ble_eq_true rfl, Nat.le_of_ble_eq_true rfl⟩) hK hst hnw hS hW tb (by decide) rfl rfl rfl hl.1 rfl (Nat.le_of_ble_eq_true rfl) dL_isStep_513 ⟨Nat.zero_le _, Nat.zero_le _⟩) hS (fun r_264 M_262 H locs hq_263 hW hS => ?_)
        obtain ⟨hq_263a, hq_263b⟩ := hq_263
        rw [hq_263b] at hW
        rw [hq_263a]
        refine lv_istore (lv' := [(9, .int (zf_pe (b + 1) M k 4)), (8, .int (zf_pe (b + 1) M k 3)), (7, .int (zf_pe (b + 1) M k 0)), (6, .int (nI k)), (5, .int (nI w)), (4, .int vz), (0, .ref b), (1, .ref bp), (2, .int vx), (3, .int vy)]) hx hb dL_isStep_516 hl (by decide) rfl (fun ls hl => ?_)
        refine lv_aload_n hx hb dL_isStep_518 rfl (lv_at hl 6 rfl) ?_
        refine lv_bipush (v := (nI 11)) hx hb dL_isStep_519 (by decide) ?_
        refine xc_i (xr_V (As := [.int (nI 11)]) (rest := []) (κ := 16) ⟨hx, hb, hml, hown, hts⟩ (cz_count l O M b tb (jj := 11) (by omega)) (cwV 1 hts gL_isStep_X6_count rfl rfl rfl (by decide +kernel) ⟨Nat.le_of_ble_eq_true rfl, Nat.le_of_ble_eq_true rfl⟩) hK hst hnw hS hW tb (by decide) rfl rfl rfl hl.1 rfl (Nat.le_of_ble_eq_true rfl) dL_isStep_521 ⟨Nat.zero_le _, Nat.zero_le _⟩) hS (fun r_267 M_265 H locs hq_266 hW hS => ?_)
        obtain ⟨hq_266a, hq_266b⟩ := hq_266
        rw [hq_266b] at hW
        rw [hq_266a]
        rw [show (zf_co (b + 1) M 11) = (M (b + 1) 5) from rfl]
        refine lv_istore (lv' := [(10, .int (M (b + 1) 5)), (9, .int (zf_pe (b + 1) M k 4)), (8, .int (zf_pe (b + 1) M k 3)), (7, .int (zf_pe (b + 1) M k 0)), (6, .int (nI k)), (5, .int (nI w)), (4, .int vz), (0, .ref b), (1, .ref bp), (2, .int vx), (3, .int vy)]) hx hb dL_isStep_524 hl (by decide) rfl (fun ls hl => ?_)
        refine lv_aload_n hx hb dL_isStep_526 rfl (lv_at hl 7 rfl) ?_
        refine lv_iload hx hb dL_isStep_527 (lv_at hl 4 rfl) ?_
        refine xc_i (xr_V (As := [.int (nI k)]) (rest := []) (κ := 16) ⟨hx, hb, hml, hown, hts⟩ (cz_leave l O M b tb hpb hz hkn (Nat.le_refl _)) (cwV 1 hts gL_isStep_X6_leave rfl rfl rfl (by decide +kernel) ⟨Nat.le_of_ble_eq_true rfl, Nat.le_of_ble_eq_true rfl⟩) hK hst hnw hS hW tb (by decide) rfl rfl rfl hl.1 rfl (Nat.le_of_ble_eq_true rfl) dL_isStep_529 ⟨Nat.zero_le _, Nat.zero_le _⟩) hS (fun r_270 M_268 H locs hq_269 hW hS => ?_)
        rcases hq_269 with ⟨e1, e2, e3⟩ | ⟨e1, e2, hq1, -⟩
        · exact absurd h30 e1
        · obtain ⟨tt, mm, u5, L5, hat, -, -⟩ := zi_wn hz hkn h30
          obtain ⟨s4, s3, s10, s5, s6⟩ := zsa_g (y := nI TT) hk24 hat
          rw [e2, show M_268 (b + 1 + 2 * k + 34) 4 = M (b + 1 + 2 * k + 34) 4 by rw [hq1.2.2.1 _ (by omega) (by omega)]; exact s4]
          have h30q : M_268 (bp + 1 + 2 * k + 34) 3 = nI 0 := by rw [hq1.2.1 _ (by omega), zc_P hg hk24]; exact h30
          have hg1 := zL_g1 hbc hg hq1
          have hz1 : zi (bp + 1) M_268 nn TT TT (20 + 14256 * NN) := zi_g hz hg1
          have hpc1 : zp bp M_268 := zp_fr hpc (fun x z1 z2 => hq1.2.1 x (by omega))
          refine lv_istore (lv' := [(11, .int (M (b + 1 + 2 * k + 34) 4)), (10, .int (M (b + 1) 5)), (9, .int (zf_pe (b + 1) M k 4)), (8, .int (zf_pe (b + 1) M k 3)), (7, .int (zf_pe (b + 1) M k 0)), (6, .int (nI k)), (5, .int (nI w)), (4, .int vz), (0, .ref b), (1, .ref bp), (2, .int vx), (3, .int vy)]) hx hb dL_isStep_532 hl (by decide) rfl (fun ls hl => ?_)
          refine lv_iload hx hb dL_isStep_534 (lv_at hl 0 rfl) ?_
          refine lv_aload_n hx hb dL_isStep_536 rfl (lv_at hl 9 rfl) ?_
          refine lv_iload hx hb dL_isStep_537 (lv_at hl 5 rfl) ?_
          refine xc_i (xr_V (As := [.int (nI k)]) (rest := [.int (M (b + 1 + 2 * k + 34) 4)]) (κ := 16) ⟨hx, hb, hml, hown, hts⟩ (cz_leave l O M_268 bp tp hpc1 hz1 hkn (Nat.le_refl _)) (cwV 1 hts gL_isStep_X6_leave rfl rfl rfl (by decide +kernel) ⟨Nat.le_of_ble_eq_true rfl, Nat.le_of_ble_eq_true rfl⟩) hK hst hnw hS hW tp (by decide) rfl rfl rfl hl.1 rfl (Nat.le_of_ble_eq_true rfl) dL_isStep_539 ⟨Nat.zero_le _, Nat.zero_le _⟩) hS (fun r_273 M_271 H locs hq_272 hW hS => ?_)
          rcases hq_272 with ⟨e1, e2, e3⟩ | ⟨e1, e2, hq2, -⟩
          · exact absurd h30q e1
          · have hgN := (zZ_sa (zZ_rf hg1) hk24 (y := nI TT) rfl).1
            rw [e2, show M_271 (bp + 1 + 2 * k + 34) 4 = M (b + 1 + 2 * k + 34) 4 by rw [hq2.2.2.1 _ (by omega) (by omega), zc_P hgN hk24]; exact s4]
            have hz2 : zi (b + 1) M_271 nn TT TT (20 + 14256 * NN) := zi_g (zi_sa hz hkn h30 (Nat.le_refl TT)) ((zq_n hq1).tr (zg_of (fun x y1 y2 => hq2.2.1 x (by omega))))
            have ho2 : ∀ x, b + 1 ≤ x → x < b + 83 → M_271 x = zm_sa (b + 1) k (nI TT) M x := fun x y1 y2 => by rw [hq2.2.1 x (by omega), hq1.2.2.1 x y1 y2]
            refine lv_icmp_ne (tgt := 610) hx hb dL_isStep_542 (by decide) (fun c_274 => ?_) (fun c_274 => ?_)
            · exact absurd c_274 (fun z => z rfl)
            · refine lv_iload hx hb dL_isStep_545 (lv_at hl 4 rfl) ?_
              refine lv_if_ne (tgt := 601) hx hb dL_isStep_547 (by decide) (fun c_275 => ?_) (fun c_275 => ?_)
              · exact absurd h30 c_275
              · refine lv_iload hx hb dL_isStep_550 (lv_at hl 0 rfl) ?_
                refine lv_iload hx hb dL_isStep_552 (lv_at hl 2 rfl) ?_
                refine lv_icmp_ne (tgt := 610) hx hb dL_isStep_554 (by decide) (fun c_276 => ?_) (fun c_276 => ?_)
                · exact absurd c_276 (fun z => z rfl)
                · refine lv_aload_n hx hb dL_isStep_557 rfl (lv_at hl 8 rfl) ?_
                  refine lv_iload hx hb dL_isStep_558 (lv_at hl 5 rfl) ?_
                  refine lv_iconst (v := (nI 0)) hx hb dL_isStep_560 (by decide) ?_
                  refine xc_i (xr_V (As := [.int (nI k), .int (nI 0)]) (rest := []) (κ := 16) ⟨hx, hb, hml, hown, hts⟩ (cz_person l O M_271 b tb hz2 (k := k) (jj := 0) hkn (by omega)) (cwV 2 hts gL_isStep_X6_person rfl rfl rfl (by decide +kernel) ⟨Nat.le_of_ble_eq_true rfl, Nat.le_of_ble_eq_true rfl⟩) hK hst hnw hS hW tb (by decide) rfl rfl rfl hl.1 rfl (Nat.le_of_ble_eq_true rfl) dL_isStep_561 ⟨Nat.zero_le _, Nat.zero_le _⟩) hS (fun r_279 M_277 H locs hq_278 hW hS => ?_)
                  obtain ⟨hq_278a, hq_278b⟩ := hq_278
                  rw [hq_278b] at hW
                  rw [hq_278a]
                  rw [show (zf_pe (b + 1) M_271 k 0) = (nI 3) from (by show M_271 (b + 1 + 2 * k + 34) 3 = _; rw [ho2 _ (by omega) (by omega)]; exact s3)]
                  refine lv_iconst (v := (nI 3)) hx hb dL_isStep_564 (by decide) ?_
                  refine lv_icmp_ne (tgt := 610) hx hb dL_isStep_565 (by decide) (fun c_280 => ?_) (fun c_280 => ?_)
                  · exact absurd c_280 (fun z => z rfl)
                  · refine lv_aload_n hx hb dL_isStep_568 rfl (lv_at hl 8 rfl) ?_
                    refine lv_bipush (v := (nI 11)) hx hb dL_isStep_569 (by decide) ?_
                    refine xc_i (xr_V (As := [.int (nI 11)]) (rest := []) (κ := 16) ⟨hx, hb, hml, hown, hts⟩ (cz_count l O M_271 b tb (jj := 11) (by omega)) (cwV 1 hts gL_isStep_X6_count rfl rfl rfl (by decide +kernel) ⟨Nat.le_of_ble_eq_true rfl, Nat.le_of_ble_eq_true rfl⟩) hK hst hnw hS hW tb (by decide) rfl rfl rfl hl.1 rfl (Nat.le_of_ble_eq_true rfl) dL_isStep_571 ⟨Nat.zero_le _, Nat.zero_le _⟩) hS (fun r_283 M_281 H locs hq_282 hW hS => ?_)
                    obtain ⟨hq_282a, hq_282b⟩ := hq_282
                    rw [hq_282b] at hW
                    rw [hq_282a]
                    rw [show (zf_co (b + 1) M_271 11) = ((M (b + 1) 5) + zm_h (M (b + 1 + 2 * k + 34) 5)) from (by show M_271 (b + 1) 5 = _; rw [ho2 _ (by omega) (by omega)]; exact s5)]
                    refine lv_iload hx hb dL_isStep_574 (lv_at hl 1 rfl) ?_
                    refine lv_iload hx hb dL_isStep_576 (lv_at hl 3 rfl) ?_
                    refine lv_iadd hx hb dL_isStep_578 ?_
                    refine lv_icmp_ne (tgt := 610) hx hb dL_isStep_579 (by decide) (fun c_284 => ?_) (fun c_284 => ?_)
                    · exact absurd c_284 (fun z => z rfl)
                    · refine lv_aload_n hx hb dL_isStep_582 rfl (lv_at hl 8 rfl) ?_
                      refine lv_iload hx hb dL_isStep_583 (lv_at hl 5 rfl) ?_
                      refine lv_bipush (v := (nI 8)) hx hb dL_isStep_585 (by decide) ?_
                      refine xc_i (xr_V (As := [.int (nI k), .int (nI 8)]) (rest := []) (κ := 16) ⟨hx, hb, hml, hown, hts⟩ (cz_person l O M_271 b tb hz2 (k := k) (jj := 8) hkn (by omega)) (cwV 2 hts gL_isStep_X6_person rfl rfl rfl (by decide +kernel) ⟨Nat.le_of_ble_eq_true rfl, Nat.le_of_ble_eq_true rfl⟩) hK hst hnw hS hW tb (by decide) rfl rfl rfl hl.1 rfl (Nat.le_of_ble_eq_true rfl) dL_isStep_587 ⟨Nat.zero_le _, Nat.zero_le _⟩) hS (fun r_287 M_285 H locs hq_286 hW hS => ?_)
                      obtain ⟨hq_286a, hq_286b⟩ := hq_286
                      rw [hq_286b] at hW
                      rw [hq_286a]
                      rw [show (zf_pe (b + 1) M_271 k 8) = (nI TT) from (by show M_271 (b + 1 + 2 * k + 34) 10 = _; rw [ho2 _ (by omega) (by omega)]; exact s10)]
                      refine lv_aload_n hx hb dL_isStep_590 rfl (lv_at hl 8 rfl) ?_
                      refine lv_iconst (v := (nI 3)) hx hb dL_isStep_591 (by decide) ?_
                      refine xc_i (xr_V (As := [.int (nI 3)]) (rest := [.int (nI TT)]) (κ := 16) ⟨hx, hb, hml, hown, hts⟩ (cz_count l O M_271 b tb (jj := 3) (by omega)) (cwV 1 hts gL_isStep_X6_count rfl rfl rfl (by decide +kernel) ⟨Nat.le_of_ble_eq_true rfl, Nat.le_of_ble_eq_true rfl⟩) hK hst hnw hS hW tb (by decide) rfl rfl rfl hl.1 rfl (Nat.le_of_ble_eq_true rfl) dL_isStep_592 ⟨Nat.zero_le _, Nat.zero_le _⟩) hS (fun r_290 M_288 H locs hq_289 hW hS => ?_)
                      obtain ⟨hq_289a, hq_289b⟩ := hq_289
                      rw [hq_289b] at hW
                      rw [hq_289a]
                      rw [show (zf_co (b + 1) M_271 3) = (nI TT) from hz2.1.2.2.1]
                      refine lv_icmp_ne (tgt := 610) hx hb dL_isStep_595 (by decide) (fun c_291 => ?_) (fun c_291 => ?_)
                      · exact absurd c_291 (fun z => z rfl)
                      · refine lv_goto (tgt := 606) hx hb dL_isStep_598 (by decide) ?_
                        refine lv_iconst (v := (nI 1)) hx hb dL_isStep_606 (by decide) ?_
                        refine lv_goto (tgt := 611) hx hb dL_isStep_607 (by decide) ?_
                        exact W.zret (v := (nI 1)) hx hb hr rfl (fun t ht hWm => ⟨⟨(nI 1), M_271, rfl, ⟨rfl, zL_chg hbc hL hq1 hq2 hgN ⟨nn, TT, by omega, (zi_sa hz hkn h30 (Nat.le_refl TT)).mono (Nat.le_refl _) (by omega)⟩⟩, xw_end ht hW⟩, hS.F ht⟩) hS.2.2 dL_isStep_611
      · refine lv_aload_n hx hb dL_isStep_491 rfl (lv_at hl 3 rfl) ?_
        refine lv_iload hx hb dL_isStep_492 (lv_at hl 0 rfl) ?_
        refine lv_iconst (v := (nI 0)) hx hb dL_isStep_494 (by decide) ?_
        refine xc_i (xr_V (As := [.int (nI k), .int (nI 0)]) (rest := []) (κ := 16) ⟨hx, hb, hml, hown, hts⟩ (cz_person l O M b tb hz (k := k) (jj := 0) hkn (by omega)) (cwV 2 hts gL_isStep_X6_person rfl rfl rfl (by decide +kernel) ⟨Nat.le_of_ble_eq_true rfl, Nat.le_of_ble_eq_true rfl⟩) hK hst hnw hS hW tb (by decide) rfl rfl rfl hl.1 rfl (Nat.le_of_ble_eq_true rfl) dL_isStep_495 ⟨Nat.zero_le _, Nat.zero_le _⟩) hS (fun r_294 M_292 H locs hq_293 hW hS => ?_)
        obtain ⟨hq_293a, hq_293b⟩ := hq_293
        rw [hq_293b] at hW
        rw [hq_293a]
        refine lv_istore (lv' := [(7, .int (zf_pe (b + 1) M k 0)), (6, .int (nI k)), (5, .int (nI w)), (4, .int vz), (0, .ref b), (1, .ref bp), (2, .int vx), (3, .int vy)]) hx hb dL_isStep_498 hl (by decide) rfl (fun ls hl => ?_)
        refine lv_aload_n hx hb dL_isStep_500 rfl (lv_at hl 4 rfl) ?_
        refine lv_iload hx hb dL_isStep_501 (lv_at hl 1 rfl) ?_
        refine lv_iconst (v := (nI 3)) hx hb dL_isStep_503 (by decide) ?_
        refine xc_i (xr_V (As := [.int (nI k), .int (nI 3)]) (rest := []) (κ := 16) ⟨hx, hb, hml, hown, hts⟩ (cz_person l O M b tb hz (k := k) (jj := 3) hkn (by omega)) (cwV 2 hts gL_isStep_X6_person rfl rfl rfl (by decide +kernel) ⟨Nat.le_of_ble_eq_true rfl, Nat.le_of_ble_eq_true rfl⟩) hK hst hnw hS hW tb (by decide) rfl rfl rfl hl.1 rfl (Nat.le_of_ble_eq_true rfl) dL_isStep_504 ⟨Nat.zero_le _, Nat.zero_le _⟩) hS (fun r_297 M_295 H locs hq_296 hW hS => ?_)
        obtain ⟨hq_296a, hq_296b⟩ := hq_296
        rw [hq_296b] at hW
        rw [hq_296a]
        refine lv_istore (lv' := [(8, .int (zf_pe (b + 1) M k 3)), (7, .int (zf_pe (b + 1) M k 0)), (6, .int (nI k)), (5, .int (nI w)), (4, .int vz), (0, .ref b), (1, .ref bp), (2, .int vx), (3, .int vy)]) hx hb dL_isStep_507 hl (by decide) rfl (fun ls hl => ?_)
        refine lv_aload_n hx hb dL_isStep_509 rfl (lv_at hl 5 rfl) ?_
        refine lv_iload hx hb dL_isStep_510 (lv_at hl 2 rfl) ?_
        refine lv_iconst (v := (nI 4)) hx hb dL_isStep_512 (by decide) ?_
        refine xc_i (xr_V (As := [.int (nI k), .int (nI 4)]) (rest := []) (κ := 16) ⟨hx, hb, hml, hown, hts⟩ (cz_person l O M b tb hz (k := k) (jj := 4) hkn (by omega)) (cwV 2 hts gL_isStep_X6_person rfl rfl rfl (by decide +kernel) ⟨Nat.le_of_ble_eq_true rfl, Nat.le_of_ble_eq_true rfl⟩) hK hst hnw hS hW tb (by decide) rfl rfl rfl hl.1 rfl (Nat.le_of_ble_eq_true rfl) dL_isStep_513 ⟨Nat.zero_le _, Nat.zero_le _⟩) hS (fun r_300 M_298 H locs hq_299 hW hS => ?_)
        obtain ⟨hq_299a, hq_299b⟩ := hq_299
        rw [hq_299b] at hW
        rw [hq_299a]
        refine lv_istore (lv' := [(9, .int (zf_pe (b + 1) M k 4)), (8, .int (zf_pe (b + 1) M k 3)), (7, .int (zf_pe (b + 1) M k 0)), (6, .int (nI k)), (5, .int (nI w)), (4, .int vz), (0, .ref b), (1, .ref bp), (2, .int vx), (3, .int vy)]) hx hb dL_isStep_516 hl (by decide) rfl (fun ls hl => ?_)
        refine lv_aload_n hx hb dL_isStep_518 rfl (lv_at hl 6 rfl) ?_
        refine lv_bipush (v := (nI 11)) hx hb dL_isStep_519 (by decide) ?_
        refine xc_i (xr_V (As := [.int (nI 11)]) (rest := []) (κ := 16) ⟨hx, hb, hml, hown, hts⟩ (cz_count l O M b tb (jj := 11) (by omega)) (cwV 1 hts gL_isStep_X6_count rfl rfl rfl (by decide +kernel) ⟨Nat.le_of_ble_eq_true rfl, Nat.le_of_ble_eq_true rfl⟩) hK hst hnw hS hW tb (by decide) rfl rfl rfl hl.1 rfl (Nat.le_of_ble_eq_true rfl) dL_isStep_521 ⟨Nat.zero_le _, Nat.zero_le _⟩) hS (fun r_303 M_301 H locs hq_302 hW hS => ?_)
        obtain ⟨hq_302a, hq_302b⟩ := hq_302
        rw [hq_302b] at hW
        rw [hq_302a]
        rw [show (zf_co (b + 1) M 11) = (M (b + 1) 5) from rfl]
        refine lv_istore (lv' := [(10, .int (M (b + 1) 5)), (9, .int (zf_pe (b + 1) M k 4)), (8, .int (zf_pe (b + 1) M k 3)), (7, .int (zf_pe (b + 1) M k 0)), (6, .int (nI k)), (5, .int (nI w)), (4, .int vz), (0, .ref b), (1, .ref bp), (2, .int vx), (3, .int vy)]) hx hb dL_isStep_524 hl (by decide) rfl (fun ls hl => ?_)
        refine lv_aload_n hx hb dL_isStep_526 rfl (lv_at hl 7 rfl) ?_
        refine lv_iload hx hb dL_isStep_527 (lv_at hl 4 rfl) ?_
        refine xc_i (xr_V (As := [.int (nI k)]) (rest := []) (κ := 16) ⟨hx, hb, hml, hown, hts⟩ (cz_leave l O M b tb hpb hz hkn (Nat.le_refl _)) (cwV 1 hts gL_isStep_X6_leave rfl rfl rfl (by decide +kernel) ⟨Nat.le_of_ble_eq_true rfl, Nat.le_of_ble_eq_true rfl⟩) hK hst hnw hS hW tb (by decide) rfl rfl rfl hl.1 rfl (Nat.le_of_ble_eq_true rfl) dL_isStep_529 ⟨Nat.zero_le _, Nat.zero_le _⟩) hS (fun r_306 M_304 H locs hq_305 hW hS => ?_)
        rcases hq_305 with ⟨e1, e2, e3⟩ | ⟨e1, e2, hq1, -⟩
        · rw [e3] at hW
          rw [e2]
          have h30p : ¬ M (bp + 1 + 2 * k + 34) 3 = nI 0 := by rw [zc_P hg hk24]; exact h30
          refine lv_istore (lv' := [(11, .int (-5)), (10, .int (M (b + 1) 5)), (9, .int (zf_pe (b + 1) M k 4)), (8, .int (zf_pe (b + 1) M k 3)), (7, .int (zf_pe (b + 1) M k 0)), (6, .int (nI k)), (5, .int (nI w)), (4, .int vz), (0, .ref b), (1, .ref bp), (2, .int vx), (3, .int vy)]) hx hb dL_isStep_532 hl (by decide) rfl (fun ls hl => ?_)
          refine lv_iload hx hb dL_isStep_534 (lv_at hl 0 rfl) ?_
          refine lv_aload_n hx hb dL_isStep_536 rfl (lv_at hl 9 rfl) ?_
          refine lv_iload hx hb dL_isStep_537 (lv_at hl 5 rfl) ?_
          refine xc_i (xr_V (As := [.int (nI k)]) (rest := [.int (-5)]) (κ := 16) ⟨hx, hb, hml, hown, hts⟩ (cz_leave l O M bp tp hpc (zi_g hz hg) hkn (Nat.le_refl _)) (cwV 1 hts gL_isStep_X6_leave rfl rfl rfl (by decide +kernel) ⟨Nat.le_of_ble_eq_true rfl, Nat.le_of_ble_eq_true rfl⟩) hK hst hnw hS hW tp (by decide) rfl rfl rfl hl.1 rfl (Nat.le_of_ble_eq_true rfl) dL_isStep_539 ⟨Nat.zero_le _, Nat.zero_le _⟩) hS (fun r_309 M_307 H locs hq_308 hW hS => ?_)
          rcases hq_308 with ⟨e1, e2, e3⟩ | ⟨e1, e2, hq2, -⟩
          · rw [e3] at hW
            rw [e2]
            refine lv_icmp_ne (tgt := 610) hx hb dL_isStep_542 (by decide) (fun c_310 => ?_) (fun c_310 => ?_)
            · exact absurd c_310 (fun z => z rfl)
            · refine lv_iload hx hb dL_isStep_545 (lv_at hl 4 rfl) ?_
              refine lv_if_ne (tgt := 601) hx hb dL_isStep_547 (by decide) (fun c_311 => ?_) (fun c_311 => ?_)
              · refine lv_iload hx hb dL_isStep_601 (lv_at hl 0 rfl) ?_
                refine lv_if_ge (tgt := 610) hx hb dL_isStep_603 (by decide) (fun c_312 => ?_) (fun c_312 => ?_)
                · exact absurd c_312 (by decide)
                · refine lv_iconst (v := (nI 1)) hx hb dL_isStep_606 (by decide) ?_
                  refine lv_goto (tgt := 611) hx hb dL_isStep_607 (by decide) ?_
                  exact W.zret (v := (nI 1)) hx hb hr rfl (fun t ht hWm => ⟨⟨(nI 1), M, rfl, ⟨rfl, zL_up hL⟩, xw_end ht hW⟩, hS.F ht⟩) hS.2.2 dL_isStep_611
              · exact absurd c_311 h30
          · exact absurd e1 h30p
        · exact absurd e1 h30
    · have hkn : k = nn := by omega
      subst hkn
      refine lv_aload_n hx hb dL_isStep_491 rfl (lv_at hl 3 rfl) ?_
      refine lv_iload hx hb dL_isStep_492 (lv_at hl 0 rfl) ?_
      refine lv_iconst (v := (nI 0)) hx hb dL_isStep_494 (by decide) ?_
      refine xc_i (xr_V (As := [.int (nI k), .int (nI 0)]) (rest := []) (κ := 16) ⟨hx, hb, hml, hown, hts⟩ (cz_person_n l O M b tb hz (nI 0)) (cwV 2 hts gL_isStep_X6_person rfl rfl rfl (by decide +kernel) ⟨Nat.le_of_ble_eq_true rfl, Nat.le_of_ble_eq_true rfl⟩) hK hst hnw hS hW tb (by decide) rfl rfl rfl hl.1 rfl (Nat.le_of_ble_eq_true rfl) dL_isStep_495 ⟨Nat.zero_le _, Nat.zero_le _⟩) hS (fun r_315 M_313 H locs hq_314 hW hS => ?_)
      obtain ⟨hq_314a, hq_314b⟩ := hq_314
      rw [hq_314b] at hW
      rw [hq_314a]
      refine lv_istore (lv' := [(7, .int (-1)), (6, .int (nI k)), (5, .int (nI w)), (4, .int vz), (0, .ref b), (1, .ref bp), (2, .int vx), (3, .int vy)]) hx hb dL_isStep_498 hl (by decide) rfl (fun ls hl => ?_)
      refine lv_aload_n hx hb dL_isStep_500 rfl (lv_at hl 4 rfl) ?_
      refine lv_iload hx hb dL_isStep_501 (lv_at hl 1 rfl) ?_
      refine lv_iconst (v := (nI 3)) hx hb dL_isStep_503 (by decide) ?_
      refine xc_i (xr_V (As := [.int (nI k), .int (nI 3)]) (rest := []) (κ := 16) ⟨hx, hb, hml, hown, hts⟩ (cz_person_n l O M b tb hz (nI 3)) (cwV 2 hts gL_isStep_X6_person rfl rfl rfl (by decide +kernel) ⟨Nat.le_of_ble_eq_true rfl, Nat.le_of_ble_eq_true rfl⟩) hK hst hnw hS hW tb (by decide) rfl rfl rfl hl.1 rfl (Nat.le_of_ble_eq_true rfl) dL_isStep_504 ⟨Nat.zero_le _, Nat.zero_le _⟩) hS (fun r_318 M_316 H locs hq_317 hW hS => ?_)
      obtain ⟨hq_317a, hq_317b⟩ := hq_317
      rw [hq_317b] at hW
      rw [hq_317a]
      refine lv_istore (lv' := [(8, .int (-1)), (7, .int (-1)), (6, .int (nI k)), (5, .int (nI w)), (4, .int vz), (0, .ref b), (1, .ref bp), (2, .int vx), (3, .int vy)]) hx hb dL_isStep_507 hl (by decide) rfl (fun ls hl => ?_)
      refine lv_aload_n hx hb dL_isStep_509 rfl (lv_at hl 5 rfl) ?_
      refine lv_iload hx hb dL_isStep_510 (lv_at hl 2 rfl) ?_
      refine lv_iconst (v := (nI 4)) hx hb dL_isStep_512 (by decide) ?_
      refine xc_i (xr_V (As := [.int (nI k), .int (nI 4)]) (rest := []) (κ := 16) ⟨hx, hb, hml, hown, hts⟩ (cz_person_n l O M b tb hz (nI 4)) (cwV 2 hts gL_isStep_X6_person rfl rfl rfl (by decide +kernel) ⟨Nat.le_of_ble_eq_true rfl, Nat.le_of_ble_eq_true rfl⟩) hK hst hnw hS hW tb (by decide) rfl rfl rfl hl.1 rfl (Nat.le_of_ble_eq_true rfl) dL_isStep_513 ⟨Nat.zero_le _, Nat.zero_le _⟩) hS (fun r_321 M_319 H locs hq_320 hW hS => ?_)
      obtain ⟨hq_320a, hq_320b⟩ := hq_320
      rw [hq_320b] at hW
      rw [hq_320a]
      refine lv_istore (lv' := [(9, .int (-1)), (8, .int (-1)), (7, .int (-1)), (6, .int (nI k)), (5, .int (nI w)), (4, .int vz), (0, .ref b), (1, .ref bp), (2, .int vx), (3, .int vy)]) hx hb dL_isStep_516 hl (by decide) rfl (fun ls hl => ?_)
      refine lv_aload_n hx hb dL_isStep_518 rfl (lv_at hl 6 rfl) ?_
      refine lv_bipush (v := (nI 11)) hx hb dL_isStep_519 (by decide) ?_
      refine xc_i (xr_V (As := [.int (nI 11)]) (rest := []) (κ := 16) ⟨hx, hb, hml, hown, hts⟩ (cz_count l O M b tb (jj := 11) (by omega)) (cwV 1 hts gL_isStep_X6_count rfl rfl rfl (by decide +kernel) ⟨Nat.le_of_ble_eq_true rfl, Nat.le_of_ble_eq_true rfl⟩) hK hst hnw hS hW tb (by decide) rfl rfl rfl hl.1 rfl (Nat.le_of_ble_eq_true rfl) dL_isStep_521 ⟨Nat.zero_le _, Nat.zero_le _⟩) hS (fun r_324 M_322 H locs hq_323 hW hS => ?_)
      obtain ⟨hq_323a, hq_323b⟩ := hq_323
      rw [hq_323b] at hW
      rw [hq_323a]
      rw [show (zf_co (b + 1) M 11) = (M (b + 1) 5) from rfl]
      refine lv_istore (lv' := [(10, .int (M (b + 1) 5)), (9, .int (-1)), (8, .int (-1)), (7, .int (-1)), (6, .int (nI k)), (5, .int (nI w)), (4, .int vz), (0, .ref b), (1, .ref bp), (2, .int vx), (3, .int vy)]) hx hb dL_isStep_524 hl (by decide) rfl (fun ls hl => ?_)
      refine lv_aload_n hx hb dL_isStep_526 rfl (lv_at hl 7 rfl) ?_
      refine lv_iload hx hb dL_isStep_527 (lv_at hl 4 rfl) ?_
      refine xc_i (xr_V (As := [.int (nI k)]) (rest := []) (κ := 16) ⟨hx, hb, hml, hown, hts⟩ (cz_leave_n l O M b tb hpb hz) (cwV 1 hts gL_isStep_X6_leave rfl rfl rfl (by decide +kernel) ⟨Nat.le_of_ble_eq_true rfl, Nat.le_of_ble_eq_true rfl⟩) hK hst hnw hS hW tb (by decide) rfl rfl rfl hl.1 rfl (Nat.le_of_ble_eq_true rfl) dL_isStep_529 ⟨Nat.zero_le _, Nat.zero_le _⟩) hS (fun r_327 M_325 H locs hq_326 hW hS => ?_)
      obtain ⟨hq_326a, hq_326b⟩ := hq_326
      rw [hq_326b] at hW
      rw [hq_326a]
      refine lv_istore (lv' := [(11, .int (-1)), (10, .int (M (b + 1) 5)), (9, .int (-1)), (8, .int (-1)), (7, .int (-1)), (6, .int (nI k)), (5, .int (nI w)), (4, .int vz), (0, .ref b), (1, .ref bp), (2, .int vx), (3, .int vy)]) hx hb dL_isStep_532 hl (by decide) rfl (fun ls hl => ?_)
      refine lv_iload hx hb dL_isStep_534 (lv_at hl 0 rfl) ?_
      refine lv_aload_n hx hb dL_isStep_536 rfl (lv_at hl 9 rfl) ?_
      refine lv_iload hx hb dL_isStep_537 (lv_at hl 5 rfl) ?_
      refine xc_i (xr_V (As := [.int (nI k)]) (rest := [.int (-1)]) (κ := 16) ⟨hx, hb, hml, hown, hts⟩ (cz_leave_n l O M bp tp hpc (zi_g hz hg)) (cwV 1 hts gL_isStep_X6_leave rfl rfl rfl (by decide +kernel) ⟨Nat.le_of_ble_eq_true rfl, Nat.le_of_ble_eq_true rfl⟩) hK hst hnw hS hW tp (by decide) rfl rfl rfl hl.1 rfl (Nat.le_of_ble_eq_true rfl) dL_isStep_539 ⟨Nat.zero_le _, Nat.zero_le _⟩) hS (fun r_330 M_328 H locs hq_329 hW hS => ?_)
      obtain ⟨hq_329a, hq_329b⟩ := hq_329
      rw [hq_329b] at hW
      rw [hq_329a]
      refine lv_icmp_ne (tgt := 610) hx hb dL_isStep_542 (by decide) (fun c_331 => ?_) (fun c_331 => ?_)
      · exact absurd c_331 (fun z => z rfl)
      · refine lv_iload hx hb dL_isStep_545 (lv_at hl 4 rfl) ?_
        refine lv_if_ne (tgt := 601) hx hb dL_isStep_547 (by decide) (fun c_332 => ?_) (fun c_332 => ?_)
        · refine lv_iload hx hb dL_isStep_601 (lv_at hl 0 rfl) ?_
          refine lv_if_ge (tgt := 610) hx hb dL_isStep_603 (by decide) (fun c_333 => ?_) (fun c_333 => ?_)
          · exact absurd c_333 (by decide)
          · refine lv_iconst (v := (nI 1)) hx hb dL_isStep_606 (by decide) ?_
            refine lv_goto (tgt := 611) hx hb dL_isStep_607 (by decide) ?_
            exact W.zret (v := (nI 1)) hx hb hr rfl (fun t ht hWm => ⟨⟨(nI 1), M, rfl, ⟨rfl, zL_up hL⟩, xw_end ht hW⟩, hS.F ht⟩) hS.2.2 dL_isStep_611
        · exact absurd c_332 (by decide)
  · refine lv_tableIn (off := 592) (tgt := 612) hx hb dL_isStep_20 (by decide) (by decide) (by decide) (by decide) ?_
    refine lv_iload_n hx hb dL_isStep_612 rfl (lv_at hl 5 rfl) ?_
    refine lv_iconst (v := (nI 2)) hx hb dL_isStep_613 (by decide) ?_
    refine xc_i (xr_S (As := [.int vy, .int (nI 2)]) (rest := []) ⟨hx, hb, hml, hown, hts⟩ (c_L_up l O M vy (n := 2) (by omega) (by omega)) (va_cwS 2 hts gL_isStep_L_up rfl rfl rfl (by decide +kernel) ⟨Nat.le_of_ble_eq_true rfl, Nat.le_of_ble_eq_true rfl⟩) hK hst hnw hS hW rfl hl.1 rfl (Nat.le_of_ble_eq_true rfl) dL_isStep_614 ⟨Nat.zero_le _, Nat.zero_le _⟩) hS (fun r_336 M_334 H locs hq_335 hW hS => ?_)
    obtain ⟨hq_335a, hq_335b⟩ := hq_335
    rw [hq_335b] at hW
    rw [hq_335a]
    obtain ⟨qs, hqs, eqs⟩ : ∃ q, q < 2 ∧ zu_u vy 2 = q := ⟨_, zu_lt (by omega), rfl⟩
    rw [eqs]
    refine lv_if_ne (tgt := 651) hx hb dL_isStep_617 (by decide) (fun c_337 => ?_) (fun c_337 => ?_)
    · refine lv_aload_n hx hb dL_isStep_651 rfl (lv_at hl 2 rfl) ?_
      refine lv_iload hx hb dL_isStep_652 (lv_at hl 1 rfl) ?_
      refine lv_iconst (v := (nI 2)) hx hb dL_isStep_654 (by decide) ?_
      refine xc_i (xr_S (As := [.int vz, .int (nI 2)]) (rest := [.ref b]) ⟨hx, hb, hml, hown, hts⟩ (c_L_up l O M vz (n := 2) (by omega) (by omega)) (va_cwS 2 hts gL_isStep_L_up rfl rfl rfl (by decide +kernel) ⟨Nat.le_of_ble_eq_true rfl, Nat.le_of_ble_eq_true rfl⟩) hK hst hnw hS hW rfl hl.1 rfl (Nat.le_of_ble_eq_true rfl) dL_isStep_655 ⟨Nat.zero_le _, Nat.zero_le _⟩) hS (fun r_340 M_338 H locs hq_339 hW hS => ?_)
      obtain ⟨hq_339a, hq_339b⟩ := hq_339
      rw [hq_339b] at hW
      rw [hq_339a]
      obtain ⟨i, hi, ei⟩ : ∃ q, q < 2 ∧ zu_u vz 2 = q := ⟨_, zu_lt (by omega), rfl⟩
      rw [ei]
      refine xc_i (xr_V (As := [.int (nI i)]) (rest := []) (κ := 16) ⟨hx, hb, hml, hown, hts⟩ (cz_restore l O M b tb hpb hi) (cwV 1 hts gL_isStep_X6_restore rfl rfl rfl (by decide +kernel) ⟨Nat.le_of_ble_eq_true rfl, Nat.le_of_ble_eq_true rfl⟩) hK hst hnw hS hW tb (by decide) rfl rfl rfl hl.1 rfl (Nat.le_of_ble_eq_true rfl) dL_isStep_658 ⟨Nat.zero_le _, Nat.zero_le _⟩) hS (fun r_343 M_341 H locs hq_342 hW hS => ?_)
      rcases hq_342 with ⟨e1, e2, e3⟩ | ⟨e1, e2, hq1, -⟩
      · rw [e3] at hW
        rw [e2]
        have e1p : M (bp + 824) i = 0 := (hs i hi).1.trans e1
        refine lv_aload_n hx hb dL_isStep_661 rfl (lv_at hl 3 rfl) ?_
        refine lv_iload hx hb dL_isStep_662 (lv_at hl 1 rfl) ?_
        refine lv_iconst (v := (nI 2)) hx hb dL_isStep_664 (by decide) ?_
        refine xc_i (xr_S (As := [.int vz, .int (nI 2)]) (rest := [.ref bp, .int (-5)]) ⟨hx, hb, hml, hown, hts⟩ (c_L_up l O M vz (n := 2) (by omega) (by omega)) (va_cwS 2 hts gL_isStep_L_up rfl rfl rfl (by decide +kernel) ⟨Nat.le_of_ble_eq_true rfl, Nat.le_of_ble_eq_true rfl⟩) hK hst hnw hS hW rfl hl.1 rfl (Nat.le_of_ble_eq_true rfl) dL_isStep_665 ⟨Nat.zero_le _, Nat.zero_le _⟩) hS (fun r_346 M_344 H locs hq_345 hW hS => ?_)
        obtain ⟨hq_345a, hq_345b⟩ := hq_345
        rw [hq_345b] at hW
        rw [hq_345a]
        rw [ei]
        refine xc_i (xr_V (As := [.int (nI i)]) (rest := [.int (-5)]) (κ := 16) ⟨hx, hb, hml, hown, hts⟩ (cz_restore l O M bp tp hpc hi) (cwV 1 hts gL_isStep_X6_restore rfl rfl rfl (by decide +kernel) ⟨Nat.le_of_ble_eq_true rfl, Nat.le_of_ble_eq_true rfl⟩) hK hst hnw hS hW tp (by decide) rfl rfl rfl hl.1 rfl (Nat.le_of_ble_eq_true rfl) dL_isStep_668 ⟨Nat.zero_le _, Nat.zero_le _⟩) hS (fun r_349 M_347 H locs hq_348 hW hS => ?_)
        rcases hq_348 with ⟨f1, f2, f3⟩ | ⟨f1, f2, hq2, -⟩
        · rw [f3] at hW
          rw [f2]
          refine lv_icmp_ne (tgt := 678) hx hb dL_isStep_671 (by decide) (fun c_350 => ?_) (fun c_350 => ?_)
          · exact absurd c_350 (fun z => z rfl)
          · refine lv_iconst (v := (nI 1)) hx hb dL_isStep_674 (by decide) ?_
            refine lv_goto (tgt := 679) hx hb dL_isStep_675 (by decide) ?_
            exact W.zret (v := (nI 1)) hx hb hr rfl (fun t ht hWm => ⟨⟨(nI 1), M, rfl, ⟨rfl, zL_up hL⟩, xw_end ht hW⟩, hS.F ht⟩) hS.2.2 dL_isStep_679
        · exact absurd e1p f1
      · have e1p : ¬ M_341 (bp + 824) i = 0 := by rw [hq1.2.1 _ (by omega), (hs i hi).1]; exact e1
        obtain ⟨hgs, ns, Ts, hTs, hzs⟩ := (hs i hi).2 e1
        have hgN : zz_g (b + 82 * i + 660) (b + 1) M (xf_cp M (b + 1) (b + 82 * i + 660) 82) := fun x hx => by rw [xf_in (by omega), show b + 1 + x - (b + 1) + (b + 82 * i + 660) = (b + 82 * i + 660) + x by omega]
        have hzN := zi_g hzs hgN
        rw [e2, show M_341 (b + 1) 4 = nI Ts by rw [hq1.2.2.1 _ (by omega) (by omega)]; exact hzN.1.2.2.1]
        have hpc1 : zp bp M_341 := zp_fr hpc (fun x z1 z2 => hq1.2.1 x (by omega))
        refine lv_aload_n hx hb dL_isStep_661 rfl (lv_at hl 3 rfl) ?_
        refine lv_iload hx hb dL_isStep_662 (lv_at hl 1 rfl) ?_
        refine lv_iconst (v := (nI 2)) hx hb dL_isStep_664 (by decide) ?_
        refine xc_i (xr_S (As := [.int vz, .int (nI 2)]) (rest := [.ref bp, .int (nI Ts)]) ⟨hx, hb, hml, hown, hts⟩ (c_L_up l O M_341 vz (n := 2) (by omega) (by omega)) (va_cwS 2 hts gL_isStep_L_up rfl rfl rfl (by decide +kernel) ⟨Nat.le_of_ble_eq_true rfl, Nat.le_of_ble_eq_true rfl⟩) hK hst hnw hS hW rfl hl.1 rfl (Nat.le_of_ble_eq_true rfl) dL_isStep_665 ⟨Nat.zero_le _, Nat.zero_le _⟩) hS (fun r_353 M_351 H locs hq_352 hW hS => ?_)
        obtain ⟨hq_352a, hq_352b⟩ := hq_352
        rw [hq_352b] at hW
        rw [hq_352a]
        rw [ei]
        refine xc_i (xr_V (As := [.int (nI i)]) (rest := [.int (nI Ts)]) (κ := 16) ⟨hx, hb, hml, hown, hts⟩ (cz_restore l O M_341 bp tp hpc1 hi) (cwV 1 hts gL_isStep_X6_restore rfl rfl rfl (by decide +kernel) ⟨Nat.le_of_ble_eq_true rfl, Nat.le_of_ble_eq_true rfl⟩) hK hst hnw hS hW tp (by decide) rfl rfl rfl hl.1 rfl (Nat.le_of_ble_eq_true rfl) dL_isStep_668 ⟨Nat.zero_le _, Nat.zero_le _⟩) hS (fun r_356 M_354 H locs hq_355 hW hS => ?_)
        rcases hq_355 with ⟨f1, f2, f3⟩ | ⟨f1, f2, hq2, -⟩
        · exact absurd f1 e1p
        · have hgP : zz_g (bp + 82 * i + 660) (bp + 1) M (xf_cp M_341 (bp + 1) (bp + 82 * i + 660) 82) := fun x hx => by rw [xf_in (by omega), show bp + 1 + x - (bp + 1) + (bp + 82 * i + 660) = (bp + 82 * i + 660) + x by omega, hq1.2.1 _ (by omega)]
          have hgNP := (hgN.sym.tr hgs).tr hgP
          rw [f2, show M_354 (bp + 1) 4 = nI Ts by rw [hq2.2.2.1 _ (by omega) (by omega)]; exact (zi_g hzN hgNP).1.2.2.1]
          refine lv_icmp_ne (tgt := 678) hx hb dL_isStep_671 (by decide) (fun c_357 => ?_) (fun c_357 => ?_)
          · exact absurd c_357 (fun z => z rfl)
          · refine lv_iconst (v := (nI 1)) hx hb dL_isStep_674 (by decide) ?_
            refine lv_goto (tgt := 679) hx hb dL_isStep_675 (by decide) ?_
            exact W.zret (v := (nI 1)) hx hb hr rfl (fun t ht hWm => ⟨⟨(nI 1), M_354, rfl, ⟨rfl, zL_chg hbc hL hq1 hq2 hgNP ⟨ns, Ts, by omega, hzN.mono (Nat.le_refl _) (by omega)⟩⟩, xw_end ht hW⟩, hS.F ht⟩) hS.2.2 dL_isStep_679
    · refine lv_aload_n hx hb dL_isStep_620 rfl (lv_at hl 2 rfl) ?_
      refine lv_iload hx hb dL_isStep_621 (lv_at hl 1 rfl) ?_
      refine lv_iconst (v := (nI 2)) hx hb dL_isStep_623 (by decide) ?_
      refine xc_i (xr_S (As := [.int vz, .int (nI 2)]) (rest := [.ref b]) ⟨hx, hb, hml, hown, hts⟩ (c_L_up l O M vz (n := 2) (by omega) (by omega)) (va_cwS 2 hts gL_isStep_L_up rfl rfl rfl (by decide +kernel) ⟨Nat.le_of_ble_eq_true rfl, Nat.le_of_ble_eq_true rfl⟩) hK hst hnw hS hW rfl hl.1 rfl (Nat.le_of_ble_eq_true rfl) dL_isStep_624 ⟨Nat.zero_le _, Nat.zero_le _⟩) hS (fun r_360 M_358 H locs hq_359 hW hS => ?_)
      obtain ⟨hq_359a, hq_359b⟩ := hq_359
      rw [hq_359b] at hW
      rw [hq_359a]
      obtain ⟨i, hi, ei⟩ : ∃ q, q < 2 ∧ zu_u vz 2 = q := ⟨_, zu_lt (by omega), rfl⟩
      rw [ei]
      refine xc_i (xr_V (As := [.int (nI i)]) (rest := []) (κ := 16) ⟨hx, hb, hml, hown, hts⟩ (cz_save l O M b tb hpb hi) (cwV 1 hts gL_isStep_X6_save rfl rfl rfl (by decide +kernel) ⟨Nat.le_of_ble_eq_true rfl, Nat.le_of_ble_eq_true rfl⟩) hK hst hnw hS hW tb (by decide) rfl rfl rfl hl.1 rfl (Nat.le_of_ble_eq_true rfl) dL_isStep_627 ⟨Nat.zero_le _, Nat.zero_le _⟩) hS (fun r_363 M_361 H locs hq_362 hW hS => ?_)
      obtain ⟨hq_362a, hq_362b⟩ := hq_362
      replace hq_362b : M_361 = zv b M i := hq_362b
      rw [hq_362b] at hW
      rw [hq_362a, show M (b + 1) 4 = nI TT from hz.1.2.2.1]
      have hpv : zp bp (zv b M i) := zp_fr hpc (fun x y1 y2 => zv_o hi (by omega) (by omega))
      refine lv_aload_n hx hb dL_isStep_630 rfl (lv_at hl 3 rfl) ?_
      refine lv_iload hx hb dL_isStep_631 (lv_at hl 1 rfl) ?_
      refine lv_iconst (v := (nI 2)) hx hb dL_isStep_633 (by decide) ?_
      refine xc_i (xr_S (As := [.int vz, .int (nI 2)]) (rest := [.ref bp, .int (nI TT)]) ⟨hx, hb, hml, hown, hts⟩ (c_L_up l O (zv b M i) vz (n := 2) (by omega) (by omega)) (va_cwS 2 hts gL_isStep_L_up rfl rfl rfl (by decide +kernel) ⟨Nat.le_of_ble_eq_true rfl, Nat.le_of_ble_eq_true rfl⟩) hK hst hnw hS hW rfl hl.1 rfl (Nat.le_of_ble_eq_true rfl) dL_isStep_634 ⟨Nat.zero_le _, Nat.zero_le _⟩) hS (fun r_366 M_364 H locs hq_365 hW hS => ?_)
      obtain ⟨hq_365a, hq_365b⟩ := hq_365
      rw [hq_365b] at hW
      rw [hq_365a]
      rw [ei]
      refine xc_i (xr_V (As := [.int (nI i)]) (rest := [.int (nI TT)]) (κ := 16) ⟨hx, hb, hml, hown, hts⟩ (cz_save l O (zv b M i) bp tp hpv hi) (cwV 1 hts gL_isStep_X6_save rfl rfl rfl (by decide +kernel) ⟨Nat.le_of_ble_eq_true rfl, Nat.le_of_ble_eq_true rfl⟩) hK hst hnw hS hW tp (by decide) rfl rfl rfl hl.1 rfl (Nat.le_of_ble_eq_true rfl) dL_isStep_637 ⟨Nat.zero_le _, Nat.zero_le _⟩) hS (fun r_369 M_367 H locs hq_368 hW hS => ?_)
      obtain ⟨hq_368a, hq_368b⟩ := hq_368
      replace hq_368b : M_367 = zv bp (zv b M i) i := hq_368b
      rw [hq_368b] at hW
      rw [hq_368a, show zv b M i (bp + 1) 4 = nI TT by rw [zv_o hi (by omega) (by omega)]; exact (congrFun (hg 0 (by omega)) 4).symm.trans hz.1.2.2.1]
      refine lv_icmp_ne (tgt := 647) hx hb dL_isStep_640 (by decide) (fun c_370 => ?_) (fun c_370 => ?_)
      · exact absurd c_370 (fun z => z rfl)
      · refine lv_iconst (v := (nI 1)) hx hb dL_isStep_643 (by decide) ?_
        refine lv_goto (tgt := 679) hx hb dL_isStep_644 (by decide) ?_
        exact W.zret (v := (nI 1)) hx hb hr rfl (fun t ht hWm => ⟨⟨(nI 1), (zv bp (zv b M i) i), rfl, ⟨rfl, zL_sav hbc hi hL⟩, xw_end ht hW⟩, hS.F ht⟩) hS.2.2 dL_isStep_679
  · refine lv_tableIn (off := 660) (tgt := 680) hx hb dL_isStep_20 (by decide) (by decide) (by decide) (by decide) ?_
    refine lv_aload_n hx hb dL_isStep_680 rfl (lv_at hl 2 rfl) ?_
    refine lv_aload_n hx hb dL_isStep_681 rfl (lv_at hl 3 rfl) ?_
    refine lv_iload_n hx hb dL_isStep_682 rfl (lv_at hl 5 rfl) ?_
    refine lv_iload hx hb dL_isStep_683 (lv_at hl 1 rfl) ?_
    refine xc_i (xr_S (As := [.ref b, .ref bp, .int vy, .int vz]) (rest := []) ⟨hx, hb, hml, hown, hts⟩ (c_L_isRead l O M b bp NN tb tp hbc hL hN vy vz) (va_cwS 4 hts gL_isStep_L_isRead rfl rfl rfl (by decide +kernel) ⟨Nat.le_of_ble_eq_true rfl, Nat.le_of_ble_eq_true rfl⟩) hK hst hnw hS hW rfl hl.1 rfl (Nat.le_of_ble_eq_true rfl) dL_isStep_685 ⟨Nat.zero_le _, Nat.zero_le _⟩) hS (fun r_373 M_371 H locs hq_372 hW hS => ?_)
    obtain ⟨hq_372a, hq_372b⟩ := hq_372
    rw [hq_372a]
    exact W.zret (v := (nI 1)) hx hb hr rfl (fun t ht hWm => ⟨⟨(nI 1), M_371, rfl, ⟨rfl, hq_372b⟩, xw_end ht hW⟩, hS.F ht⟩) hS.2.2 dL_isStep_688
  · refine lv_tableIn (off := 660) (tgt := 680) hx hb dL_isStep_20 (by decide) (by decide) (by decide) (by decide) ?_
    refine lv_aload_n hx hb dL_isStep_680 rfl (lv_at hl 2 rfl) ?_
    refine lv_aload_n hx hb dL_isStep_681 rfl (lv_at hl 3 rfl) ?_
    refine lv_iload_n hx hb dL_isStep_682 rfl (lv_at hl 5 rfl) ?_
    refine lv_iload hx hb dL_isStep_683 (lv_at hl 1 rfl) ?_
    refine xc_i (xr_S (As := [.ref b, .ref bp, .int vy, .int vz]) (rest := []) ⟨hx, hb, hml, hown, hts⟩ (c_L_isRead l O M b bp NN tb tp hbc hL hN vy vz) (va_cwS 4 hts gL_isStep_L_isRead rfl rfl rfl (by decide +kernel) ⟨Nat.le_of_ble_eq_true rfl, Nat.le_of_ble_eq_true rfl⟩) hK hst hnw hS hW rfl hl.1 rfl (Nat.le_of_ble_eq_true rfl) dL_isStep_685 ⟨Nat.zero_le _, Nat.zero_le _⟩) hS (fun r_376 M_374 H locs hq_375 hW hS => ?_)
    obtain ⟨hq_375a, hq_375b⟩ := hq_375
    rw [hq_375a]
    exact W.zret (v := (nI 1)) hx hb hr rfl (fun t ht hWm => ⟨⟨(nI 1), M_374, rfl, ⟨rfl, hq_375b⟩, xw_end ht hW⟩, hS.F ht⟩) hS.2.2 dL_isStep_688
  · refine lv_tableIn (off := 660) (tgt := 680) hx hb dL_isStep_20 (by decide) (by decide) (by decide) (by decide) ?_
    refine lv_aload_n hx hb dL_isStep_680 rfl (lv_at hl 2 rfl) ?_
    refine lv_aload_n hx hb dL_isStep_681 rfl (lv_at hl 3 rfl) ?_
    refine lv_iload_n hx hb dL_isStep_682 rfl (lv_at hl 5 rfl) ?_
    refine lv_iload hx hb dL_isStep_683 (lv_at hl 1 rfl) ?_
    refine xc_i (xr_S (As := [.ref b, .ref bp, .int vy, .int vz]) (rest := []) ⟨hx, hb, hml, hown, hts⟩ (c_L_isRead l O M b bp NN tb tp hbc hL hN vy vz) (va_cwS 4 hts gL_isStep_L_isRead rfl rfl rfl (by decide +kernel) ⟨Nat.le_of_ble_eq_true rfl, Nat.le_of_ble_eq_true rfl⟩) hK hst hnw hS hW rfl hl.1 rfl (Nat.le_of_ble_eq_true rfl) dL_isStep_685 ⟨Nat.zero_le _, Nat.zero_le _⟩) hS (fun r_379 M_377 H locs hq_378 hW hS => ?_)
    obtain ⟨hq_378a, hq_378b⟩ := hq_378
    rw [hq_378a]
    exact W.zret (v := (nI 1)) hx hb hr rfl (fun t ht hWm => ⟨⟨(nI 1), M_377, rfl, ⟨rfl, hq_378b⟩, xw_end ht hW⟩, hS.F ht⟩) hS.2.2 dL_isStep_688
  · refine lv_tableIn (off := 660) (tgt := 680) hx hb dL_isStep_20 (by decide) (by decide) (by decide) (by decide) ?_
    refine lv_aload_n hx hb dL_isStep_680 rfl (lv_at hl 2 rfl) ?_
    refine lv_aload_n hx hb dL_isStep_681 rfl (lv_at hl 3 rfl) ?_
    refine lv_iload_n hx hb dL_isStep_682 rfl (lv_at hl 5 rfl) ?_
    refine lv_iload hx hb dL_isStep_683 (lv_at hl 1 rfl) ?_
    refine xc_i (xr_S (As := [.ref b, .ref bp, .int vy, .int vz]) (rest := []) ⟨hx, hb, hml, hown, hts⟩ (c_L_isRead l O M b bp NN tb tp hbc hL hN vy vz) (va_cwS 4 hts gL_isStep_L_isRead rfl rfl rfl (by decide +kernel) ⟨Nat.le_of_ble_eq_true rfl, Nat.le_of_ble_eq_true rfl⟩) hK hst hnw hS hW rfl hl.1 rfl (Nat.le_of_ble_eq_true rfl) dL_isStep_685 ⟨Nat.zero_le _, Nat.zero_le _⟩) hS (fun r_382 M_380 H locs hq_381 hW hS => ?_)
    obtain ⟨hq_381a, hq_381b⟩ := hq_381
    rw [hq_381a]
    exact W.zret (v := (nI 1)) hx hb hr rfl (fun t ht hWm => ⟨⟨(nI 1), M_380, rfl, ⟨rfl, hq_381b⟩, xw_end ht hW⟩, hS.F ht⟩) hS.2.2 dL_isStep_688
  · refine lv_tableOut (tgt := 689) hx hb dL_isStep_20 (xi_thi (nI_le hu10 (by omega)) (by omega) rfl) (by decide) ?_
    refine lv_iconst (v := (nI 1)) hx hb dL_isStep_689 (by decide) ?_
    refine lv_iload_n hx hb dL_isStep_690 rfl (lv_at hl 5 rfl) ?_
    refine lv_iload hx hb dL_isStep_691 (lv_at hl 1 rfl) ?_
    refine lv_bipush (v := (nI 8)) hx hb dL_isStep_693 (by decide) ?_
    refine xc_i (xr_S (As := [.int vz, .int (nI 8)]) (rest := [.int vy, .int (nI 1)]) ⟨hx, hb, hml, hown, hts⟩ (c_L_up l O M vz (n := 8) (by omega) (by omega)) (va_cwS 2 hts gL_isStep_L_up rfl rfl rfl (by decide +kernel) ⟨Nat.le_of_ble_eq_true rfl, Nat.le_of_ble_eq_true rfl⟩) hK hst hnw hS hW rfl hl.1 rfl (Nat.le_of_ble_eq_true rfl) dL_isStep_695 ⟨Nat.zero_le _, Nat.zero_le _⟩) hS (fun r_385 M_383 H locs hq_384 hW hS => ?_)
    obtain ⟨hq_384a, hq_384b⟩ := hq_384
    rw [hq_384b] at hW
    rw [hq_384a]
    obtain ⟨q8, hq8, eq8⟩ : ∃ q, q < 8 ∧ zu_u vz 8 = q := ⟨_, zu_lt (by omega), rfl⟩
    rw [eq8]
    refine lv_if_ne (tgt := 706) hx hb dL_isStep_698 (by decide) (fun c_386 => ?_) (fun c_386 => ?_)
    · refine lv_bipush (v := (nI 7)) hx hb dL_isStep_706 (by decide) ?_
      refine xc_i (xr_S (As := [.int vy, .int (nI 7)]) (rest := [.int (nI 1)]) ⟨hx, hb, hml, hown, hts⟩ (c_L_up l O M vy (n := 7) (by omega) (by omega)) (va_cwS 2 hts gL_isStep_L_up rfl rfl rfl (by decide +kernel) ⟨Nat.le_of_ble_eq_true rfl, Nat.le_of_ble_eq_true rfl⟩) hK hst hnw hS hW rfl hl.1 rfl (Nat.le_of_ble_eq_true rfl) dL_isStep_708 ⟨Nat.zero_le _, Nat.zero_le _⟩) hS (fun r_389 M_387 H locs hq_388 hW hS => ?_)
      obtain ⟨hq_388a, hq_388b⟩ := hq_388
      rw [hq_388b] at hW
      rw [hq_388a]
      obtain ⟨q9, hq9, eq9⟩ : ∃ q, q < 7 ∧ zu_u vy 7 = q := ⟨_, zu_lt (by omega), rfl⟩
      rw [eq9]
      refine lv_iadd hx hb dL_isStep_711 ?_
      obtain ⟨n, hn⟩ : ∃ n, n = 1 + q9 := ⟨_, rfl⟩
      rw [show nI 1 + nI q9 = nI n by rw [hn]; exact nI_add 1 q9]
      have hzp : zi (bp + 1) M nn TT TT (20 + 14256 * NN) := zi_g hz hg
      refine lv_istore (lv' := [(6, .int (nI n)), (5, .int (nI w)), (4, .int vz), (0, .ref b), (1, .ref bp), (2, .int vx), (3, .int vy)]) hx hb dL_isStep_712 hl (by decide) rfl (fun ls hl => ?_)
      refine lv_aload_n hx hb dL_isStep_714 rfl (lv_at hl 3 rfl) ?_
      refine lv_iconst (v := (nI 3)) hx hb dL_isStep_715 (by decide) ?_
      refine xc_i (xr_V (As := [.int (nI 3)]) (rest := []) (κ := 16) ⟨hx, hb, hml, hown, hts⟩ (cz_count l O M b tb (jj := 3) (by omega)) (cwV 1 hts gL_isStep_X6_count rfl rfl rfl (by decide +kernel) ⟨Nat.le_of_ble_eq_true rfl, Nat.le_of_ble_eq_true rfl⟩) hK hst hnw hS hW tb (by decide) rfl rfl rfl hl.1 rfl (Nat.le_of_ble_eq_true rfl) dL_isStep_716 ⟨Nat.zero_le _, Nat.zero_le _⟩) hS (fun r_392 M_390 H locs hq_391 hW hS => ?_)
      obtain ⟨hq_391a, hq_391b⟩ := hq_391
      rw [hq_391b] at hW
      rw [hq_391a]
      rw [show (zf_co (b + 1) M 3) = (nI TT) from hz.1.2.2.1]
      refine lv_istore (lv' := [(7, .int (nI TT)), (6, .int (nI n)), (5, .int (nI w)), (4, .int vz), (0, .ref b), (1, .ref bp), (2, .int vx), (3, .int vy)]) hx hb dL_isStep_719 hl (by decide) rfl (fun ls hl => ?_)
      refine lv_aload_n hx hb dL_isStep_721 rfl (lv_at hl 4 rfl) ?_
      refine lv_bipush (v := (nI 7)) hx hb dL_isStep_722 (by decide) ?_
      refine xc_i (xr_V (As := [.int (nI 7)]) (rest := []) (κ := 16) ⟨hx, hb, hml, hown, hts⟩ (cz_count l O M b tb (jj := 7) (by omega)) (cwV 1 hts gL_isStep_X6_count rfl rfl rfl (by decide +kernel) ⟨Nat.le_of_ble_eq_true rfl, Nat.le_of_ble_eq_true rfl⟩) hK hst hnw hS hW tb (by decide) rfl rfl rfl hl.1 rfl (Nat.le_of_ble_eq_true rfl) dL_isStep_724 ⟨Nat.zero_le _, Nat.zero_le _⟩) hS (fun r_395 M_393 H locs hq_394 hW hS => ?_)
      obtain ⟨hq_394a, hq_394b⟩ := hq_394
      rw [hq_394b] at hW
      rw [hq_394a]
      rw [show (zf_co (b + 1) M 7) = (zc_pw (b + 1) (nI 2) M) from rfl]
      refine lv_istore (lv' := [(8, .int (zc_pw (b + 1) (nI 2) M)), (7, .int (nI TT)), (6, .int (nI n)), (5, .int (nI w)), (4, .int vz), (0, .ref b), (1, .ref bp), (2, .int vx), (3, .int vy)]) hx hb dL_isStep_727 hl (by decide) rfl (fun ls hl => ?_)
      refine lv_iconst (v := (nI 0)) hx hb dL_isStep_729 (by decide) ?_
      rw [show nI 0 = zc_pw (bp + 1) (nI 2) M - zc_pw (bp + 1) (nI 2) M by rw [Int32.sub_self]; rfl]
      refine lv_istore (lv' := [(9, .int (zc_pw (bp + 1) (nI 2) M - zc_pw (bp + 1) (nI 2) M)), (8, .int (zc_pw (b + 1) (nI 2) M)), (7, .int (nI TT)), (6, .int (nI n)), (5, .int (nI w)), (4, .int vz), (0, .ref b), (1, .ref bp), (2, .int vx), (3, .int vy)]) hx hb dL_isStep_730 hl (by decide) rfl (fun ls hl => ?_)
      refine lv_iconst (v := (nI 0)) hx hb dL_isStep_732 (by decide) ?_
      refine lv_istore (lv' := [(10, .int (nI 0)), (9, .int (zc_pw (bp + 1) (nI 2) M - zc_pw (bp + 1) (nI 2) M)), (8, .int (zc_pw (b + 1) (nI 2) M)), (7, .int (nI TT)), (6, .int (nI n)), (5, .int (nI w)), (4, .int vz), (0, .ref b), (1, .ref bp), (2, .int vx), (3, .int vy)]) hx hb dL_isStep_733 hl (by decide) rfl (fun ls hl => ?_)
      refine xl_up (σ := xm_T) n (fun kk zz H locs ls => xw_D G g τ zz H ∧ va_S A s.heap H locs ∧ lv_has ls 12 [(10, .int (nI kk)), (9, .int (zc_pw (bp + 1) (nI 2) zz - zc_pw (bp + 1) (nI 2) M)), (8, .int (zc_pw (b + 1) (nI 2) M)), (7, .int (nI TT)), (6, .int (nI n)), (5, .int (nI w)), (4, .int vz), (2, .int vx), (3, .int vy), (0, .ref b), (1, .ref bp)] ∧ zq bp M zz (zm_it (zm_ti (bp + 1)) kk M)) (fun z735 H locs ls hI => ?_) (fun k735 z735 H locs ls hk735 hI ih735 => ?_) (k0 := 0) (z0 := M) (Nat.zero_le _) ⟨hW, hS, lv_sub hl [0, 1, 2, 3, 4, 5, 6, 9, 10, 7, 8] rfl, (zq_rf hpc)⟩
      · obtain ⟨hW, hS, hl, hE735⟩ := hI
        refine lv_iload hx hb dL_isStep_735 (lv_at hl 0 rfl) ?_
        refine lv_iload hx hb dL_isStep_737 (lv_at hl 4 rfl) ?_
        refine lv_icmp_ge (tgt := 758) hx hb dL_isStep_739 (by decide) (fun c_396 => ?_) (fun c_396 => ?_)
        · refine lv_aload_n hx hb dL_isStep_758 rfl (lv_at hl 9 rfl) ?_
          refine lv_iload hx hb dL_isStep_759 (lv_at hl 4 rfl) ?_
          have hpb1 : zp b z735 := zp_fr hpb (fun x y1 y2 => hE735.2.1 x (by omega))
          have hgb : zz_g (b + 1) (b + 1) M z735 := zg_of (fun x y1 y2 => hE735.2.1 x (by omega))
          refine xc_i (xr_V (As := [.int (nI n)]) (rest := []) (κ := 16) ⟨hx, hb, hml, hown, hts⟩ (cz_pass l O z735 b tb hpb1 (zi_g hz hgb) (n := n) (by omega) (by omega) (by omega) (by omega)) (cwV 1 hts gL_isStep_X6_pass rfl rfl rfl (by decide +kernel) ⟨Nat.le_of_ble_eq_true rfl, Nat.le_of_ble_eq_true rfl⟩) hK hst hnw hS hW tb (by decide) rfl rfl rfl hl.1 rfl (Nat.le_of_ble_eq_true rfl) dL_isStep_761 ⟨Nat.zero_le _, Nat.zero_le _⟩) hS (fun r_399 M_397 H locs hq_398 hW hS => ?_)
          obtain ⟨hq_398a, hq2, -⟩ := hq_398
          have hgN : zz_g (b + 1) (bp + 1) (zm_it (zm_ti (b + 1)) n z735) (zm_it (zm_ti (bp + 1)) n M) := (zZ_tn (zZ_rf (hgb.sym.tr hg)) n).1
          have hzN := zi_tn n (zi_g hz hgb) (by omega)
          have epw : zc_pw (b + 1) (nI 2) M_397 = zc_pw (bp + 1) (nI 2) z735 := (zg_pw (((zq_n hq2).sym.tr hgN).tr (zq_n hE735)) _).symm
          have epw2 : zc_pw (bp + 1) (nI 2) M = zc_pw (b + 1) (nI 2) M := zg_pw hg _
          rw [hq_398a, epw, show zc_pw (b + 1) (nI 2) z735 = zc_pw (bp + 1) (nI 2) M from (zg_pw hgb _).trans epw2.symm]
          refine lv_iload hx hb dL_isStep_764 (lv_at hl 1 rfl) ?_
          refine lv_icmp_ne (tgt := 800) hx hb dL_isStep_766 (by decide) (fun c_400 => ?_) (fun c_400 => ?_)
          · exact absurd c_400 (fun z => z rfl)
          · refine lv_aload_n hx hb dL_isStep_769 rfl (lv_at hl 9 rfl) ?_
            refine lv_iconst (v := (nI 3)) hx hb dL_isStep_770 (by decide) ?_
            refine xc_i (xr_V (As := [.int (nI 3)]) (rest := []) (κ := 16) ⟨hx, hb, hml, hown, hts⟩ (cz_count l O M_397 b tb (jj := 3) (by omega)) (cwV 1 hts gL_isStep_X6_count rfl rfl rfl (by decide +kernel) ⟨Nat.le_of_ble_eq_true rfl, Nat.le_of_ble_eq_true rfl⟩) hK hst hnw hS hW tb (by decide) rfl rfl rfl hl.1 rfl (Nat.le_of_ble_eq_true rfl) dL_isStep_771 ⟨Nat.zero_le _, Nat.zero_le _⟩) hS (fun r_403 M_401 H locs hq_402 hW hS => ?_)
            obtain ⟨hq_402a, hq_402b⟩ := hq_402
            rw [hq_402b] at hW
            rw [hq_402a]
            rw [show (zf_co (b + 1) M_397 3) = (nI (TT + n)) from (by show M_397 (b + 1) 4 = _; rw [hq2.2.2.1 _ (by omega) (by omega)]; exact hzN.1.2.2.1)]
            refine lv_iload hx hb dL_isStep_774 (lv_at hl 3 rfl) ?_
            refine lv_iload hx hb dL_isStep_776 (lv_at hl 4 rfl) ?_
            refine lv_iadd hx hb dL_isStep_778 ?_
            rw [show (nI TT) + (nI n) = (nI (TT + n)) from nI_add TT n]
            refine lv_icmp_ne (tgt := 800) hx hb dL_isStep_779 (by decide) (fun c_404 => ?_) (fun c_404 => ?_)
            · exact absurd c_404 (fun z => z rfl)
            · refine lv_aload_n hx hb dL_isStep_782 rfl (lv_at hl 9 rfl) ?_
              refine lv_bipush (v := (nI 7)) hx hb dL_isStep_783 (by decide) ?_
              refine xc_i (xr_V (As := [.int (nI 7)]) (rest := []) (κ := 16) ⟨hx, hb, hml, hown, hts⟩ (cz_count l O M_397 b tb (jj := 7) (by omega)) (cwV 1 hts gL_isStep_X6_count rfl rfl rfl (by decide +kernel) ⟨Nat.le_of_ble_eq_true rfl, Nat.le_of_ble_eq_true rfl⟩) hK hst hnw hS hW tb (by decide) rfl rfl rfl hl.1 rfl (Nat.le_of_ble_eq_true rfl) dL_isStep_785 ⟨Nat.zero_le _, Nat.zero_le _⟩) hS (fun r_407 M_405 H locs hq_406 hW hS => ?_)
              obtain ⟨hq_406a, hq_406b⟩ := hq_406
              rw [hq_406b] at hW
              rw [hq_406a]
              rw [show (zf_co (b + 1) M_397 7) = (zc_pw (bp + 1) (nI 2) z735) from epw]
              refine lv_iload hx hb dL_isStep_788 (lv_at hl 2 rfl) ?_
              refine lv_iload hx hb dL_isStep_790 (lv_at hl 1 rfl) ?_
              refine lv_iadd hx hb dL_isStep_792 ?_
              rw [← epw2, zc_pp (z := 0)]
              refine lv_icmp_ne (tgt := 800) hx hb dL_isStep_793 (by decide) (fun c_408 => ?_) (fun c_408 => ?_)
              · exact absurd c_408 (fun z => z rfl)
              · refine lv_iconst (v := (nI 1)) hx hb dL_isStep_796 (by decide) ?_
                refine lv_goto (tgt := 801) hx hb dL_isStep_797 (by decide) ?_
                exact W.zret (v := (nI 1)) hx hb hr rfl (fun t ht hWm => ⟨⟨(nI 1), M_397, rfl, ⟨rfl, zL_chg2 hbc hL hE735 hq2 hgN ⟨nn, TT + n, by omega, hzN.mono (Nat.le_refl _) (by omega)⟩⟩, xw_end ht hW⟩, hS.F ht⟩) hS.2.2 dL_isStep_801
        · exact absurd (nI_le (Nat.le_refl _) (by omega)) c_396
      · obtain ⟨hW, hS, hl, hE735⟩ := hI
        have hzk : zi (bp + 1) z735 nn (TT + k735) (TT + k735) (20 + 14256 * NN + 144 * k735) := zi_g (zi_tn k735 hzp (by omega)) (zq_n hE735)
        refine lv_iload hx hb dL_isStep_735 (lv_at hl 0 rfl) ?_
        refine lv_iload hx hb dL_isStep_737 (lv_at hl 4 rfl) ?_
        refine lv_icmp_ge (tgt := 758) hx hb dL_isStep_739 (by decide) (fun c_409 => ?_) (fun c_409 => ?_)
        · exact absurd c_409 (nI_ge hk735 (by omega))
        · refine lv_iload hx hb dL_isStep_742 (lv_at hl 1 rfl) ?_
          refine lv_aload_n hx hb dL_isStep_744 rfl (lv_at hl 10 rfl) ?_
          refine lv_iconst (v := (nI 1)) hx hb dL_isStep_745 (by decide) ?_
          refine xc_i (xr_V (As := [.int (nI 1)]) (rest := [.int (zc_pw (bp + 1) (nI 2) z735 - zc_pw (bp + 1) (nI 2) M)]) (κ := 16) ⟨hx, hb, hml, hown, hts⟩ (cz_pass l O z735 bp tp hE735.1 hzk (n := 1) (by omega) (by omega) (by omega) (by omega)) (cwV 1 hts gL_isStep_X6_pass rfl rfl rfl (by decide +kernel) ⟨Nat.le_of_ble_eq_true rfl, Nat.le_of_ble_eq_true rfl⟩) hK hst hnw hS hW tp (by decide) rfl rfl rfl hl.1 rfl (Nat.le_of_ble_eq_true rfl) dL_isStep_746 ⟨Nat.zero_le _, Nat.zero_le _⟩) hS (fun r_412 M_410 H locs hq_411 hW hS => ?_)
          obtain ⟨hq_411a, hq1, -⟩ := hq_411
          rw [hq_411a]
          refine lv_iadd hx hb dL_isStep_749 ?_
          rw [zc_ps]
          refine lv_istore (lv' := [(9, .int (zc_pw (bp + 1) (nI 2) M_410 - zc_pw (bp + 1) (nI 2) M)), (10, .int (nI k735)), (8, .int (zc_pw (b + 1) (nI 2) M)), (7, .int (nI TT)), (6, .int (nI n)), (5, .int (nI w)), (4, .int vz), (2, .int vx), (3, .int vy), (0, .ref b), (1, .ref bp)]) hx hb dL_isStep_750 hl (by decide) rfl (fun ls hl => ?_)
          refine lv_iinc (v := (nI (k735 + 1))) (lv' := [(10, .int (nI (k735 + 1))), (9, .int (zc_pw (bp + 1) (nI 2) M_410 - zc_pw (bp + 1) (nI 2) M)), (8, .int (zc_pw (b + 1) (nI 2) M)), (7, .int (nI TT)), (6, .int (nI n)), (5, .int (nI w)), (4, .int vz), (2, .int vx), (3, .int vy), (0, .ref b), (1, .ref bp)]) hx hb dL_isStep_752 hl (k := 1) rfl ((nI_1 k735)) (by decide) rfl (fun ls hl => ?_)
          refine lv_goto (tgt := 735) hx hb dL_isStep_755 (by decide) ?_
          have hq9 := zq_tr hE735 hq1 (N3 := (zm_it (zm_ti (bp + 1)) (k735 + 1) M)) (fun x y1 y2 => by have e := (zZ_ti (zZ_rf (zq_n hE735))).1 (x - (bp + 1)) (by omega); rw [show bp + 1 + (x - (bp + 1)) = x by omega] at e; exact e.symm)
          exact ih735 M_410 _ _ _ ⟨hW, hS, lv_sub hl [0, 1, 2, 3, 4, 5, 6, 7, 8, 9, 10] rfl, hq9⟩
    · refine lv_bipush (v := (nI 99)) hx hb dL_isStep_701 (by decide) ?_
      refine lv_goto (tgt := 708) hx hb dL_isStep_703 (by decide) ?_
      refine xc_i (xr_S (As := [.int vy, .int (nI 99)]) (rest := [.int (nI 1)]) ⟨hx, hb, hml, hown, hts⟩ (c_L_up l O M vy (n := 99) (by omega) (by omega)) (va_cwS 2 hts gL_isStep_L_up rfl rfl rfl (by decide +kernel) ⟨Nat.le_of_ble_eq_true rfl, Nat.le_of_ble_eq_true rfl⟩) hK hst hnw hS hW rfl hl.1 rfl (Nat.le_of_ble_eq_true rfl) dL_isStep_708 ⟨Nat.zero_le _, Nat.zero_le _⟩) hS (fun r_415 M_413 H locs hq_414 hW hS => ?_)
      obtain ⟨hq_414a, hq_414b⟩ := hq_414
      rw [hq_414b] at hW
      rw [hq_414a]
      obtain ⟨q9, hq9, eq9⟩ : ∃ q, q < 99 ∧ zu_u vy 99 = q := ⟨_, zu_lt (by omega), rfl⟩
      rw [eq9]
      refine lv_iadd hx hb dL_isStep_711 ?_
      obtain ⟨n, hn⟩ : ∃ n, n = 1 + q9 := ⟨_, rfl⟩
      rw [show nI 1 + nI q9 = nI n by rw [hn]; exact nI_add 1 q9]
      have hzp : zi (bp + 1) M nn TT TT (20 + 14256 * NN) := zi_g hz hg
      refine lv_istore (lv' := [(6, .int (nI n)), (5, .int (nI w)), (4, .int vz), (0, .ref b), (1, .ref bp), (2, .int vx), (3, .int vy)]) hx hb dL_isStep_712 hl (by decide) rfl (fun ls hl => ?_)
      refine lv_aload_n hx hb dL_isStep_714 rfl (lv_at hl 3 rfl) ?_
      refine lv_iconst (v := (nI 3)) hx hb dL_isStep_715 (by decide) ?_
      refine xc_i (xr_V (As := [.int (nI 3)]) (rest := []) (κ := 16) ⟨hx, hb, hml, hown, hts⟩ (cz_count l O M b tb (jj := 3) (by omega)) (cwV 1 hts gL_isStep_X6_count rfl rfl rfl (by decide +kernel) ⟨Nat.le_of_ble_eq_true rfl, Nat.le_of_ble_eq_true rfl⟩) hK hst hnw hS hW tb (by decide) rfl rfl rfl hl.1 rfl (Nat.le_of_ble_eq_true rfl) dL_isStep_716 ⟨Nat.zero_le _, Nat.zero_le _⟩) hS (fun r_418 M_416 H locs hq_417 hW hS => ?_)
      obtain ⟨hq_417a, hq_417b⟩ := hq_417
      rw [hq_417b] at hW
      rw [hq_417a]
      rw [show (zf_co (b + 1) M 3) = (nI TT) from hz.1.2.2.1]
      refine lv_istore (lv' := [(7, .int (nI TT)), (6, .int (nI n)), (5, .int (nI w)), (4, .int vz), (0, .ref b), (1, .ref bp), (2, .int vx), (3, .int vy)]) hx hb dL_isStep_719 hl (by decide) rfl (fun ls hl => ?_)
      refine lv_aload_n hx hb dL_isStep_721 rfl (lv_at hl 4 rfl) ?_
      refine lv_bipush (v := (nI 7)) hx hb dL_isStep_722 (by decide) ?_
      refine xc_i (xr_V (As := [.int (nI 7)]) (rest := []) (κ := 16) ⟨hx, hb, hml, hown, hts⟩ (cz_count l O M b tb (jj := 7) (by omega)) (cwV 1 hts gL_isStep_X6_count rfl rfl rfl (by decide +kernel) ⟨Nat.le_of_ble_eq_true rfl, Nat.le_of_ble_eq_true rfl⟩) hK hst hnw hS hW tb (by decide) rfl rfl rfl hl.1 rfl (Nat.le_of_ble_eq_true rfl) dL_isStep_724 ⟨Nat.zero_le _, Nat.zero_le _⟩) hS (fun r_421 M_419 H locs hq_420 hW hS => ?_)
      obtain ⟨hq_420a, hq_420b⟩ := hq_420
      rw [hq_420b] at hW
      rw [hq_420a]
      rw [show (zf_co (b + 1) M 7) = (zc_pw (b + 1) (nI 2) M) from rfl]
      refine lv_istore (lv' := [(8, .int (zc_pw (b + 1) (nI 2) M)), (7, .int (nI TT)), (6, .int (nI n)), (5, .int (nI w)), (4, .int vz), (0, .ref b), (1, .ref bp), (2, .int vx), (3, .int vy)]) hx hb dL_isStep_727 hl (by decide) rfl (fun ls hl => ?_)
      refine lv_iconst (v := (nI 0)) hx hb dL_isStep_729 (by decide) ?_
      rw [show nI 0 = zc_pw (bp + 1) (nI 2) M - zc_pw (bp + 1) (nI 2) M by rw [Int32.sub_self]; rfl]
      refine lv_istore (lv' := [(9, .int (zc_pw (bp + 1) (nI 2) M - zc_pw (bp + 1) (nI 2) M)), (8, .int (zc_pw (b + 1) (nI 2) M)), (7, .int (nI TT)), (6, .int (nI n)), (5, .int (nI w)), (4, .int vz), (0, .ref b), (1, .ref bp), (2, .int vx), (3, .int vy)]) hx hb dL_isStep_730 hl (by decide) rfl (fun ls hl => ?_)
      refine lv_iconst (v := (nI 0)) hx hb dL_isStep_732 (by decide) ?_
      refine lv_istore (lv' := [(10, .int (nI 0)), (9, .int (zc_pw (bp + 1) (nI 2) M - zc_pw (bp + 1) (nI 2) M)), (8, .int (zc_pw (b + 1) (nI 2) M)), (7, .int (nI TT)), (6, .int (nI n)), (5, .int (nI w)), (4, .int vz), (0, .ref b), (1, .ref bp), (2, .int vx), (3, .int vy)]) hx hb dL_isStep_733 hl (by decide) rfl (fun ls hl => ?_)
      refine xl_up (σ := xm_T) n (fun kk zz H locs ls => xw_D G g τ zz H ∧ va_S A s.heap H locs ∧ lv_has ls 12 [(10, .int (nI kk)), (9, .int (zc_pw (bp + 1) (nI 2) zz - zc_pw (bp + 1) (nI 2) M)), (8, .int (zc_pw (b + 1) (nI 2) M)), (7, .int (nI TT)), (6, .int (nI n)), (5, .int (nI w)), (4, .int vz), (2, .int vx), (3, .int vy), (0, .ref b), (1, .ref bp)] ∧ zq bp M zz (zm_it (zm_ti (bp + 1)) kk M)) (fun z735 H locs ls hI => ?_) (fun k735 z735 H locs ls hk735 hI ih735 => ?_) (k0 := 0) (z0 := M) (Nat.zero_le _) ⟨hW, hS, lv_sub hl [0, 1, 2, 3, 4, 5, 6, 9, 10, 7, 8] rfl, (zq_rf hpc)⟩
      · obtain ⟨hW, hS, hl, hE735⟩ := hI
        refine lv_iload hx hb dL_isStep_735 (lv_at hl 0 rfl) ?_
        refine lv_iload hx hb dL_isStep_737 (lv_at hl 4 rfl) ?_
        refine lv_icmp_ge (tgt := 758) hx hb dL_isStep_739 (by decide) (fun c_422 => ?_) (fun c_422 => ?_)
        · refine lv_aload_n hx hb dL_isStep_758 rfl (lv_at hl 9 rfl) ?_
          refine lv_iload hx hb dL_isStep_759 (lv_at hl 4 rfl) ?_
          have hpb1 : zp b z735 := zp_fr hpb (fun x y1 y2 => hE735.2.1 x (by omega))
          have hgb : zz_g (b + 1) (b + 1) M z735 := zg_of (fun x y1 y2 => hE735.2.1 x (by omega))
          refine xc_i (xr_V (As := [.int (nI n)]) (rest := []) (κ := 16) ⟨hx, hb, hml, hown, hts⟩ (cz_pass l O z735 b tb hpb1 (zi_g hz hgb) (n := n) (by omega) (by omega) (by omega) (by omega)) (cwV 1 hts gL_isStep_X6_pass rfl rfl rfl (by decide +kernel) ⟨Nat.le_of_ble_eq_true rfl, Nat.le_of_ble_eq_true rfl⟩) hK hst hnw hS hW tb (by decide) rfl rfl rfl hl.1 rfl (Nat.le_of_ble_eq_true rfl) dL_isStep_761 ⟨Nat.zero_le _, Nat.zero_le _⟩) hS (fun r_425 M_423 H locs hq_424 hW hS => ?_)
          obtain ⟨hq_424a, hq2, -⟩ := hq_424
          have hgN : zz_g (b + 1) (bp + 1) (zm_it (zm_ti (b + 1)) n z735) (zm_it (zm_ti (bp + 1)) n M) := (zZ_tn (zZ_rf (hgb.sym.tr hg)) n).1
          have hzN := zi_tn n (zi_g hz hgb) (by omega)
          have epw : zc_pw (b + 1) (nI 2) M_423 = zc_pw (bp + 1) (nI 2) z735 := (zg_pw (((zq_n hq2).sym.tr hgN).tr (zq_n hE735)) _).symm
          have epw2 : zc_pw (bp + 1) (nI 2) M = zc_pw (b + 1) (nI 2) M := zg_pw hg _
          rw [hq_424a, epw, show zc_pw (b + 1) (nI 2) z735 = zc_pw (bp + 1) (nI 2) M from (zg_pw hgb _).trans epw2.symm]
          refine lv_iload hx hb dL_isStep_764 (lv_at hl 1 rfl) ?_
          refine lv_icmp_ne (tgt := 800) hx hb dL_isStep_766 (by decide) (fun c_426 => ?_) (fun c_426 => ?_)
          · exact absurd c_426 (fun z => z rfl)
          · refine lv_aload_n hx hb dL_isStep_769 rfl (lv_at hl 9 rfl) ?_
            refine lv_iconst (v := (nI 3)) hx hb dL_isStep_770 (by decide) ?_
            refine xc_i (xr_V (As := [.int (nI 3)]) (rest := []) (κ := 16) ⟨hx, hb, hml, hown, hts⟩ (cz_count l O M_423 b tb (jj := 3) (by omega)) (cwV 1 hts gL_isStep_X6_count rfl rfl rfl (by decide +kernel) ⟨Nat.le_of_ble_eq_true rfl, Nat.le_of_ble_eq_true rfl⟩) hK hst hnw hS hW tb (by decide) rfl rfl rfl hl.1 rfl (Nat.le_of_ble_eq_true rfl) dL_isStep_771 ⟨Nat.zero_le _, Nat.zero_le _⟩) hS (fun r_429 M_427 H locs hq_428 hW hS => ?_)
            obtain ⟨hq_428a, hq_428b⟩ := hq_428
            rw [hq_428b] at hW
            rw [hq_428a]
            rw [show (zf_co (b + 1) M_423 3) = (nI (TT + n)) from (by show M_423 (b + 1) 4 = _; rw [hq2.2.2.1 _ (by omega) (by omega)]; exact hzN.1.2.2.1)]
            refine lv_iload hx hb dL_isStep_774 (lv_at hl 3 rfl) ?_
            refine lv_iload hx hb dL_isStep_776 (lv_at hl 4 rfl) ?_
            refine lv_iadd hx hb dL_isStep_778 ?_
            rw [show (nI TT) + (nI n) = (nI (TT + n)) from nI_add TT n]
            refine lv_icmp_ne (tgt := 800) hx hb dL_isStep_779 (by decide) (fun c_430 => ?_) (fun c_430 => ?_)
            · exact absurd c_430 (fun z => z rfl)
            · refine lv_aload_n hx hb dL_isStep_782 rfl (lv_at hl 9 rfl) ?_
              refine lv_bipush (v := (nI 7)) hx hb dL_isStep_783 (by decide) ?_
              refine xc_i (xr_V (As := [.int (nI 7)]) (rest := []) (κ := 16) ⟨hx, hb, hml, hown, hts⟩ (cz_count l O M_423 b tb (jj := 7) (by omega)) (cwV 1 hts gL_isStep_X6_count rfl rfl rfl (by decide +kernel) ⟨Nat.le_of_ble_eq_true rfl, Nat.le_of_ble_eq_true rfl⟩) hK hst hnw hS hW tb (by decide) rfl rfl rfl hl.1 rfl (Nat.le_of_ble_eq_true rfl) dL_isStep_785 ⟨Nat.zero_le _, Nat.zero_le _⟩) hS (fun r_433 M_431 H locs hq_432 hW hS => ?_)
              obtain ⟨hq_432a, hq_432b⟩ := hq_432
              rw [hq_432b] at hW
              rw [hq_432a]
              rw [show (zf_co (b + 1) M_423 7) = (zc_pw (bp + 1) (nI 2) z735) from epw]
              refine lv_iload hx hb dL_isStep_788 (lv_at hl 2 rfl) ?_
              refine lv_iload hx hb dL_isStep_790 (lv_at hl 1 rfl) ?_
              refine lv_iadd hx hb dL_isStep_792 ?_
              rw [← epw2, zc_pp (z := 0)]
              refine lv_icmp_ne (tgt := 800) hx hb dL_isStep_793 (by decide) (fun c_434 => ?_) (fun c_434 => ?_)
              · exact absurd c_434 (fun z => z rfl)
              · refine lv_iconst (v := (nI 1)) hx hb dL_isStep_796 (by decide) ?_
                refine lv_goto (tgt := 801) hx hb dL_isStep_797 (by decide) ?_
                exact W.zret (v := (nI 1)) hx hb hr rfl (fun t ht hWm => ⟨⟨(nI 1), M_423, rfl, ⟨rfl, zL_chg2 hbc hL hE735 hq2 hgN ⟨nn, TT + n, by omega, hzN.mono (Nat.le_refl _) (by omega)⟩⟩, xw_end ht hW⟩, hS.F ht⟩) hS.2.2 dL_isStep_801
        · exact absurd (nI_le (Nat.le_refl _) (by omega)) c_422
      · obtain ⟨hW, hS, hl, hE735⟩ := hI
        have hzk : zi (bp + 1) z735 nn (TT + k735) (TT + k735) (20 + 14256 * NN + 144 * k735) := zi_g (zi_tn k735 hzp (by omega)) (zq_n hE735)
        refine lv_iload hx hb dL_isStep_735 (lv_at hl 0 rfl) ?_
        refine lv_iload hx hb dL_isStep_737 (lv_at hl 4 rfl) ?_
        refine lv_icmp_ge (tgt := 758) hx hb dL_isStep_739 (by decide) (fun c_435 => ?_) (fun c_435 => ?_)
        · exact absurd c_435 (nI_ge hk735 (by omega))
        · refine lv_iload hx hb dL_isStep_742 (lv_at hl 1 rfl) ?_
          refine lv_aload_n hx hb dL_isStep_744 rfl (lv_at hl 10 rfl) ?_
          refine lv_iconst (v := (nI 1)) hx hb dL_isStep_745 (by decide) ?_
          refine xc_i (xr_V (As := [.int (nI 1)]) (rest := [.int (zc_pw (bp + 1) (nI 2) z735 - zc_pw (bp + 1) (nI 2) M)]) (κ := 16) ⟨hx, hb, hml, hown, hts⟩ (cz_pass l O z735 bp tp hE735.1 hzk (n := 1) (by omega) (by omega) (by omega) (by omega)) (cwV 1 hts gL_isStep_X6_pass rfl rfl rfl (by decide +kernel) ⟨Nat.le_of_ble_eq_true rfl, Nat.le_of_ble_eq_true rfl⟩) hK hst hnw hS hW tp (by decide) rfl rfl rfl hl.1 rfl (Nat.le_of_ble_eq_true rfl) dL_isStep_746 ⟨Nat.zero_le _, Nat.zero_le _⟩) hS (fun r_438 M_436 H locs hq_437 hW hS => ?_)
          obtain ⟨hq_437a, hq1, -⟩ := hq_437
          rw [hq_437a]
          refine lv_iadd hx hb dL_isStep_749 ?_
          rw [zc_ps]
          refine lv_istore (lv' := [(9, .int (zc_pw (bp + 1) (nI 2) M_436 - zc_pw (bp + 1) (nI 2) M)), (10, .int (nI k735)), (8, .int (zc_pw (b + 1) (nI 2) M)), (7, .int (nI TT)), (6, .int (nI n)), (5, .int (nI w)), (4, .int vz), (2, .int vx), (3, .int vy), (0, .ref b), (1, .ref bp)]) hx hb dL_isStep_750 hl (by decide) rfl (fun ls hl => ?_)
          refine lv_iinc (v := (nI (k735 + 1))) (lv' := [(10, .int (nI (k735 + 1))), (9, .int (zc_pw (bp + 1) (nI 2) M_436 - zc_pw (bp + 1) (nI 2) M)), (8, .int (zc_pw (b + 1) (nI 2) M)), (7, .int (nI TT)), (6, .int (nI n)), (5, .int (nI w)), (4, .int vz), (2, .int vx), (3, .int vy), (0, .ref b), (1, .ref bp)]) hx hb dL_isStep_752 hl (k := 1) rfl ((nI_1 k735)) (by decide) rfl (fun ls hl => ?_)
          refine lv_goto (tgt := 735) hx hb dL_isStep_755 (by decide) ?_
          have hq9 := zq_tr hE735 hq1 (N3 := (zm_it (zm_ti (bp + 1)) (k735 + 1) M)) (fun x y1 y2 => by have e := (zZ_ti (zZ_rf (zq_n hE735))).1 (x - (bp + 1)) (by omega); rw [show bp + 1 + (x - (bp + 1)) = x by omega] at e; exact e.symm)
          exact ih735 M_436 _ _ _ ⟨hW, hS, lv_sub hl [0, 1, 2, 3, 4, 5, 6, 7, 8, 9, 10] rfl, hq9⟩
