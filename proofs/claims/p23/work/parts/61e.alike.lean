/-! THE LAW: areAlike -/

set_option maxHeartbeats 4000000 in
set_option maxRecDepth 100000 in
/-- areAlike(o, p, x) -/
theorem c_L_areAlike (l : Launch) {G : va_G} {g : Nat → ClassId} {t0 τ : Nat → Nat} {A : Nat → Prop} (O : xk_O τ A) (M : xm_T) (b bp NN : Nat) (tb : τ b = 16) (tp : τ bp = 16) (hbc : b + 827 ≤ bp) (hL : zL b bp NN M) (hN : NN ≤ 60) (vx : Int32) : Met l yL_areAlike wsL_areAlike ({ frames := 8, cells := 0, slots := 0, locals := 270 }) (va_Pc [.ref b, .ref bp, .int vx] (xS_t G g t0 τ A M)) (va_Qi (fun r M' => r = nI 1) (fun M' t => xw_D G g τ M' t.heap) A) 0 0 A := by
  refine Met.ofW (cc := cL_areAlike) (maxL := 7) (ret := (some .boolean)) (by decide) rfl ?_
  intro p e s m args below meth c s₁ B hml hv
  obtain ⟨rfl, hW, hK, hst, hnw⟩ := hv
  have hx := B.exec
  have hb := B.bytes
  have hr := B.returns
  have hts := atoms_spec (ws := wsL_areAlike) B.pre
  have hown : s.vm.findClass RL = some m.cls := findClass_of_methodNamed B.named
  have hlocks := B.notSynchronized
  have hS : va_S A s.heap s.heap [] := va_S.rf
  have hl := lv_entry ([.ref b, .ref bp, .int vx]) (n := 7) (Nat.le_of_ble_eq_true rfl)
  rw [lg_entry_eq]
  generalize (lg_sl ([.ref b, .ref bp, .int vx]) ++ List.replicate (7 - (lg_sl ([.ref b, .ref bp, .int vx])).length) Slot.unset).toArray = ls at hl ⊢
  have hl : lv_has ls 7 [(0, .ref b), (1, .ref bp), (2, .int vx)] := hl
  obtain ⟨hpb, hpc, ⟨nn, TT, hT, hz⟩, hg, hs⟩ := id hL
  have hnn := hz.n
  have hA0 : zA b bp M M := ⟨fun _ _ => rfl, hpb, hpc⟩
  refine lv_iconst (v := (nI 1)) hx hb dL_areAlike_0 (by decide) ?_
  refine lv_iload_n hx hb dL_areAlike_1 rfl (lv_at hl 2 rfl) ?_
  refine lv_sipush (v := (nI 300)) hx hb dL_areAlike_2 (by decide) ?_
  refine xc_i (xr_S (As := [.int vx, .int (nI 300)]) (rest := [.int (nI 1)]) ⟨hx, hb, hml, hown, hts⟩ (c_L_up l O M vx (n := 300) (by omega) (by omega)) (va_cwS 2 hts gL_areAlike_L_up rfl rfl rfl (by decide +kernel) ⟨Nat.le_of_ble_eq_true rfl, Nat.le_of_ble_eq_true rfl⟩) hK hst hnw hS hW rfl hl.1 rfl (Nat.le_of_ble_eq_true rfl) dL_areAlike_5 ⟨Nat.zero_le _, Nat.zero_le _⟩) hS (fun r_3 M_1 H locs hq_2 hW hS => ?_)
  obtain ⟨hq_2a, hq_2b⟩ := hq_2
  rw [hq_2b] at hW
  rw [hq_2a]
  obtain ⟨q3, hq3, eq3⟩ : ∃ q, q < 300 ∧ zu_u vx 300 = q := ⟨_, zu_lt (by omega), rfl⟩
  rw [eq3]
  refine lv_iadd hx hb dL_areAlike_8 ?_
  obtain ⟨n, hn⟩ : ∃ n, n = 1 + q3 := ⟨_, rfl⟩
  rw [show nI 1 + nI q3 = nI n by rw [hn]; exact nI_add 1 q3]
  refine lv_istore_n (lv' := [(3, .int (nI n)), (0, .ref b), (1, .ref bp), (2, .int vx)]) hx hb dL_areAlike_9 rfl hl (by decide) rfl (fun ls hl => ?_)
  refine lv_aload_n hx hb dL_areAlike_10 rfl (lv_at hl 1 rfl) ?_
  refine xc_i (xr_V (As := []) (rest := []) (κ := 16) ⟨hx, hb, hml, hown, hts⟩ (cz_longest l O M b tb) (cwV 0 hts gL_areAlike_X6_longest rfl rfl rfl (by decide +kernel) ⟨Nat.le_of_ble_eq_true rfl, Nat.le_of_ble_eq_true rfl⟩) hK hst hnw hS hW tb (by decide) rfl rfl rfl hl.1 rfl (Nat.le_of_ble_eq_true rfl) dL_areAlike_11 ⟨Nat.zero_le _, Nat.zero_le _⟩) hS (fun r_6 M_4 H locs hq_5 hW hS => ?_)
  obtain ⟨hq_5a, hq_5b⟩ := hq_5
  rw [hq_5b] at hW
  rw [hq_5a]
  refine lv_aload_n hx hb dL_areAlike_14 rfl (lv_at hl 2 rfl) ?_
  refine xc_i (xr_V (As := []) (rest := [.int (zf_lo (b + 1) M 6).1]) (κ := 16) ⟨hx, hb, hml, hown, hts⟩ (cz_longest l O M bp tp) (cwV 0 hts gL_areAlike_X6_longest rfl rfl rfl (by decide +kernel) ⟨Nat.le_of_ble_eq_true rfl, Nat.le_of_ble_eq_true rfl⟩) hK hst hnw hS hW tp (by decide) rfl rfl rfl hl.1 rfl (Nat.le_of_ble_eq_true rfl) dL_areAlike_15 ⟨Nat.zero_le _, Nat.zero_le _⟩) hS (fun r_9 M_7 H locs hq_8 hW hS => ?_)
  obtain ⟨hq_8a, hq_8b⟩ := hq_8
  rw [hq_8b] at hW
  rw [hq_8a]
  rw [show (zf_lo (bp + 1) M 6).1 = (zf_lo (b + 1) M 6).1 from (by rw [zg_lo hg 6 (by omega)])]
  refine lv_icmp_ne (tgt := 36) hx hb dL_areAlike_18 (by decide) (fun c_10 => ?_) (fun c_10 => ?_)
  · exact absurd c_10 (fun z => z rfl)
  · refine lv_aload_n hx hb dL_areAlike_21 rfl (lv_at hl 1 rfl) ?_
    refine xc_i (xr_V (As := []) (rest := []) (κ := 16) ⟨hx, hb, hml, hown, hts⟩ (cz_bestClerk l O M b tb hz hpb.1 (by omega)) (cwV 0 hts gL_areAlike_X6_bestClerk rfl rfl rfl (by decide +kernel) ⟨Nat.le_of_ble_eq_true rfl, Nat.le_of_ble_eq_true rfl⟩) hK hst hnw hS hW tb (by decide) rfl rfl rfl hl.1 rfl (Nat.le_of_ble_eq_true rfl) dL_areAlike_22 ⟨Nat.zero_le _, Nat.zero_le _⟩) hS (fun r_13 M_11 H locs hq_12 hW hS => ?_)
    obtain ⟨hq_12a, hy1⟩ := hq_12
    rw [hq_12a]
    have hA1 : zA b bp M M_11 := zA_b hbc hA0 hy1
    refine lv_aload_n hx hb dL_areAlike_25 rfl (lv_at hl 2 rfl) ?_
    have hzc1 : zi (bp + 1) M_11 nn TT TT (20 + 14256 * NN) := zi_g (zi_g hz hg) (hA1.c hbc)
    refine xc_i (xr_V (As := []) (rest := [.int ((zf_bc (b + 83) (zy_c b M) 6).1)]) (κ := 16) ⟨hx, hb, hml, hown, hts⟩ (cz_bestClerk l O M_11 bp tp hzc1 hA1.2.2.1 (by omega)) (cwV 0 hts gL_areAlike_X6_bestClerk rfl rfl rfl (by decide +kernel) ⟨Nat.le_of_ble_eq_true rfl, Nat.le_of_ble_eq_true rfl⟩) hK hst hnw hS hW tp (by decide) rfl rfl rfl hl.1 rfl (Nat.le_of_ble_eq_true rfl) dL_areAlike_26 ⟨Nat.zero_le _, Nat.zero_le _⟩) hS (fun r_16 M_14 H locs hq_15 hW hS => ?_)
    obtain ⟨hq_15a, hy2⟩ := hq_15
    rw [hq_15a, zg_bc (zA_y hbc hg hy1) 6 (by omega)]
    have hA2 : zA b bp M M_14 := zA_c hbc hA1 hy2
    refine lv_icmp_ne (tgt := 36) hx hb dL_areAlike_29 (by decide) (fun c_17 => ?_) (fun c_17 => ?_)
    · exact absurd c_17 (fun z => z rfl)
    · refine lv_iconst (v := (nI 1)) hx hb dL_areAlike_32 (by decide) ?_
      refine lv_goto (tgt := 37) hx hb dL_areAlike_33 (by decide) ?_
      refine lv_istore (lv' := [(4, .int (nI 1)), (3, .int (nI n)), (0, .ref b), (1, .ref bp), (2, .int vx)]) hx hb dL_areAlike_37 hl (by decide) rfl (fun ls hl => ?_)
      refine lv_iconst (v := (nI 0)) hx hb dL_areAlike_39 (by decide) ?_
      refine lv_istore (lv' := [(5, .int (nI 0)), (4, .int (nI 1)), (3, .int (nI n)), (0, .ref b), (1, .ref bp), (2, .int vx)]) hx hb dL_areAlike_40 hl (by decide) rfl (fun ls hl => ?_)
      refine xl_up (σ := xm_T) 15 (fun kk zz H locs ls => xw_D G g τ zz H ∧ va_S A s.heap H locs ∧ lv_has ls 7 [(5, .int (nI kk)), (3, .int (nI n)), (4, .int (nI 1)), (0, .ref b), (1, .ref bp), (2, .int vx)] ∧ zA b bp M zz) (fun z42 H locs ls hI => ?_) (fun k42 z42 H locs ls hk42 hI ih42 => ?_) (k0 := 0) (z0 := M_14) (Nat.zero_le _) ⟨hW, hS, lv_sub hl [0, 2, 1, 3, 4, 5] rfl, hA2⟩
      · obtain ⟨hW, hS, hl, hE42⟩ := hI
        refine lv_iload hx hb dL_areAlike_42 (lv_at hl 0 rfl) ?_
        refine lv_bipush (v := (nI 15)) hx hb dL_areAlike_44 (by decide) ?_
        refine lv_icmp_ge (tgt := 105) hx hb dL_areAlike_46 (by decide) (fun c_18 => ?_) (fun c_18 => ?_)
        · have hgz := hE42.g hbc hg
          have hzz : zi (b + 1) z42 nn TT TT (20 + 14256 * NN) := zi_g hz (hE42.b hbc)
          refine lv_iconst (v := (nI 0)) hx hb dL_areAlike_105 (by decide) ?_
          refine lv_istore (lv' := [(5, .int (nI 0)), (3, .int (nI n)), (4, .int (nI 1)), (0, .ref b), (1, .ref bp), (2, .int vx)]) hx hb dL_areAlike_106 hl (by decide) rfl (fun ls hl => ?_)
          refine xl_up (σ := Unit) nn (fun kk zz H locs ls => xw_D G g τ z42 H ∧ va_S A s.heap H locs ∧ lv_has ls 7 [(5, .int (nI kk)), (3, .int (nI n)), (4, .int (nI 1)), (0, .ref b), (1, .ref bp), (2, .int vx)] ∧ True) (fun z108 H locs ls hI => ?_) (fun k108 z108 H locs ls hk108 hI ih108 => ?_) (k0 := 0) (z0 := ()) (Nat.zero_le _) ⟨hW, hS, lv_sub hl [0, 1, 2, 3, 4, 5] rfl, trivial⟩
          · obtain ⟨hW, hS, hl, hE108⟩ := hI
            refine lv_iload hx hb dL_areAlike_108 (lv_at hl 0 rfl) ?_
            refine lv_aload_n hx hb dL_areAlike_110 rfl (lv_at hl 3 rfl) ?_
            refine lv_iconst (v := (nI 4)) hx hb dL_areAlike_111 (by decide) ?_
            refine xc_i (xr_V (As := [.int (nI 4)]) (rest := [.int (nI nn)]) (κ := 16) ⟨hx, hb, hml, hown, hts⟩ (cz_count l O z42 b tb (jj := 4) (by omega)) (cwV 1 hts gL_areAlike_X6_count rfl rfl rfl (by decide +kernel) ⟨Nat.le_of_ble_eq_true rfl, Nat.le_of_ble_eq_true rfl⟩) hK hst hnw hS hW tb (by decide) rfl rfl rfl hl.1 rfl (Nat.le_of_ble_eq_true rfl) dL_areAlike_112 ⟨Nat.zero_le _, Nat.zero_le _⟩) hS (fun r_21 M_19 H locs hq_20 hW hS => ?_)
            obtain ⟨hq_20a, hq_20b⟩ := hq_20
            rw [hq_20b] at hW
            rw [hq_20a]
            rw [show (zf_co (b + 1) z42 4) = (nI nn) from hzz.1.2.1]
            refine lv_icmp_ge (tgt := 171) hx hb dL_areAlike_115 (by decide) (fun c_22 => ?_) (fun c_22 => ?_)
            · refine lv_iconst (v := (nI 0)) hx hb dL_areAlike_171 (by decide) ?_
              refine lv_istore (lv' := [(5, .int (nI 0)), (3, .int (nI n)), (4, .int (nI 1)), (0, .ref b), (1, .ref bp), (2, .int vx)]) hx hb dL_areAlike_172 hl (by decide) rfl (fun ls hl => ?_)
              refine xl_up (σ := Unit) 42 (fun kk zz H locs ls => xw_D G g τ z42 H ∧ va_S A s.heap H locs ∧ lv_has ls 7 [(5, .int (nI kk)), (3, .int (nI n)), (4, .int (nI 1)), (0, .ref b), (1, .ref bp), (2, .int vx)] ∧ True) (fun z174 H locs ls hI => ?_) (fun k174 z174 H locs ls hk174 hI ih174 => ?_) (k0 := 0) (z0 := ()) (Nat.zero_le _) ⟨hW, hS, lv_sub hl [0, 1, 2, 3, 4, 5] rfl, trivial⟩
              · obtain ⟨hW, hS, hl, hE174⟩ := hI
                refine lv_iload hx hb dL_areAlike_174 (lv_at hl 0 rfl) ?_
                refine lv_bipush (v := (nI 42)) hx hb dL_areAlike_176 (by decide) ?_
                refine lv_icmp_ge (tgt := 230) hx hb dL_areAlike_178 (by decide) (fun c_23 => ?_) (fun c_23 => ?_)
                · refine lv_iload_n hx hb dL_areAlike_230 rfl (lv_at hl 5 rfl) ?_
                  refine lv_iconst (v := (nI 5)) hx hb dL_areAlike_231 (by decide) ?_
                  refine lv_ishr hx hb dL_areAlike_232 ?_
                  refine lv_aload_n hx hb dL_areAlike_233 rfl (lv_at hl 3 rfl) ?_
                  refine lv_iconst (v := (nI 4)) hx hb dL_areAlike_234 (by decide) ?_
                  refine xc_i (xr_V (As := [.int (nI 4)]) (rest := [.int (vx >>> ((nI 5) &&& 31))]) (κ := 16) ⟨hx, hb, hml, hown, hts⟩ (cz_count l O z42 b tb (jj := 4) (by omega)) (cwV 1 hts gL_areAlike_X6_count rfl rfl rfl (by decide +kernel) ⟨Nat.le_of_ble_eq_true rfl, Nat.le_of_ble_eq_true rfl⟩) hK hst hnw hS hW tb (by decide) rfl rfl rfl hl.1 rfl (Nat.le_of_ble_eq_true rfl) dL_areAlike_235 ⟨Nat.zero_le _, Nat.zero_le _⟩) hS (fun r_26 M_24 H locs hq_25 hW hS => ?_)
                  obtain ⟨hq_25a, hq_25b⟩ := hq_25
                  rw [hq_25b] at hW
                  rw [hq_25a]
                  rw [show (zf_co (b + 1) z42 4) = (nI nn) from hzz.1.2.1]
                  refine lv_iconst (v := (nI 1)) hx hb dL_areAlike_238 (by decide) ?_
                  refine lv_iadd hx hb dL_areAlike_239 ?_
                  rw [show (nI nn) + (nI 1) = (nI (nn + 1)) from nI_add nn 1]
                  refine xc_i (xr_S (As := [.int (vx >>> ((nI 5) &&& 31)), .int (nI (nn + 1))]) (rest := []) ⟨hx, hb, hml, hown, hts⟩ (c_L_up l O z42 (vx >>> ((nI 5) &&& 31)) (n := (nn + 1)) (by omega) (by omega)) (va_cwS 2 hts gL_areAlike_L_up rfl rfl rfl (by decide +kernel) ⟨Nat.le_of_ble_eq_true rfl, Nat.le_of_ble_eq_true rfl⟩) hK hst hnw hS hW rfl hl.1 rfl (Nat.le_of_ble_eq_true rfl) dL_areAlike_240 ⟨Nat.zero_le _, Nat.zero_le _⟩) hS (fun r_29 M_27 H locs hq_28 hW hS => ?_)
                  obtain ⟨hq_28a, hq_28b⟩ := hq_28
                  rw [hq_28b] at hW
                  rw [hq_28a]
                  obtain ⟨k, hk, ek⟩ : ∃ q, q < (nn + 1) ∧ zu_u (vx >>> ((nI 5) &&& 31)) (nn + 1) = q := ⟨_, zu_lt (by omega), rfl⟩
                  rw [ek]
                  refine lv_istore (lv' := [(5, .int (nI k)), (3, .int (nI n)), (4, .int (nI 1)), (0, .ref b), (1, .ref bp), (2, .int vx)]) hx hb dL_areAlike_243 hl (by decide) rfl (fun ls hl => ?_)
                  refine lv_iload hx hb dL_areAlike_245 (lv_at hl 2 rfl) ?_
                  refine lv_if_eq (tgt := 269) hx hb dL_areAlike_247 (by decide) (fun c_30 => ?_) (fun c_30 => ?_)
                  · exact absurd c_30 (by decide)
                  · rcases Nat.lt_or_ge k nn with hkn | hkn
                    · refine lv_aload_n hx hb dL_areAlike_250 rfl (lv_at hl 3 rfl) ?_
                      refine lv_iload hx hb dL_areAlike_251 (lv_at hl 0 rfl) ?_
                      refine xc_i (xr_V (As := [.int (nI k)]) (rest := []) (κ := 16) ⟨hx, hb, hml, hown, hts⟩ (cz_untilDone l O z42 b tb hzz hE42.2.1.1 (by omega) hkn) (cwV 1 hts gL_areAlike_X6_untilDone rfl rfl rfl (by decide +kernel) ⟨Nat.le_of_ble_eq_true rfl, Nat.le_of_ble_eq_true rfl⟩) hK hst hnw hS hW tb (by decide) rfl rfl rfl hl.1 rfl (Nat.le_of_ble_eq_true rfl) dL_areAlike_253 ⟨Nat.zero_le _, Nat.zero_le _⟩) hS (fun r_33 M_31 H locs hq_32 hW hS => ?_)
                      obtain ⟨hq_32a, hy5⟩ := hq_32
                      rw [hq_32a]
                      have hA5 := zA_b hbc hE42 hy5
                      refine lv_aload_n hx hb dL_areAlike_256 rfl (lv_at hl 4 rfl) ?_
                      refine lv_iload hx hb dL_areAlike_257 (lv_at hl 0 rfl) ?_
                      have hzc3 : zi (bp + 1) M_31 nn TT TT (20 + 14256 * NN) := zi_g (zi_g hz hg) (hA5.c hbc)
                      refine xc_i (xr_V (As := [.int (nI k)]) (rest := [.int (zf_ud (b + 1) (b + 83) z42 (zy_c b z42) k)]) (κ := 16) ⟨hx, hb, hml, hown, hts⟩ (cz_untilDone l O M_31 bp tp hzc3 hA5.2.2.1 (by omega) hkn) (cwV 1 hts gL_areAlike_X6_untilDone rfl rfl rfl (by decide +kernel) ⟨Nat.le_of_ble_eq_true rfl, Nat.le_of_ble_eq_true rfl⟩) hK hst hnw hS hW tp (by decide) rfl rfl rfl hl.1 rfl (Nat.le_of_ble_eq_true rfl) dL_areAlike_259 ⟨Nat.zero_le _, Nat.zero_le _⟩) hS (fun r_36 M_34 H locs hq_35 hW hS => ?_)
                      obtain ⟨hq_35a, hy6⟩ := hq_35
                      rw [hq_35a, zg_ud (zA_z hbc hgz hy5) (zA_y hbc hgz hy5) (show k < 24 by omega)]
                      refine lv_icmp_ne (tgt := 269) hx hb dL_areAlike_262 (by decide) (fun c_37 => ?_) (fun c_37 => ?_)
                      · exact absurd c_37 (fun z => z rfl)
                      · refine lv_iconst (v := (nI 1)) hx hb dL_areAlike_265 (by decide) ?_
                        refine lv_goto (tgt := 270) hx hb dL_areAlike_266 (by decide) ?_
                        exact W.zret (v := (nI 1)) hx hb hr rfl (fun t ht hWm => ⟨⟨(nI 1), M_34, rfl, rfl, xw_end ht hW⟩, hS.F ht⟩) hS.2.2 dL_areAlike_270
                    · have hkn2 : k = nn := by omega
                      rw [hkn2] at hl
                      refine lv_aload_n hx hb dL_areAlike_250 rfl (lv_at hl 3 rfl) ?_
                      refine lv_iload hx hb dL_areAlike_251 (lv_at hl 0 rfl) ?_
                      refine xc_i (xr_V (As := [.int (nI nn)]) (rest := []) (κ := 16) ⟨hx, hb, hml, hown, hts⟩ (cz_untilDone_n l O z42 b tb hzz) (cwV 1 hts gL_areAlike_X6_untilDone rfl rfl rfl (by decide +kernel) ⟨Nat.le_of_ble_eq_true rfl, Nat.le_of_ble_eq_true rfl⟩) hK hst hnw hS hW tb (by decide) rfl rfl rfl hl.1 rfl (Nat.le_of_ble_eq_true rfl) dL_areAlike_253 ⟨Nat.zero_le _, Nat.zero_le _⟩) hS (fun r_40 M_38 H locs hq_39 hW hS => ?_)
                      obtain ⟨hq_39a, hq_39b⟩ := hq_39
                      rw [hq_39b] at hW
                      rw [hq_39a]
                      refine lv_aload_n hx hb dL_areAlike_256 rfl (lv_at hl 4 rfl) ?_
                      refine lv_iload hx hb dL_areAlike_257 (lv_at hl 0 rfl) ?_
                      refine xc_i (xr_V (As := [.int (nI nn)]) (rest := [.int (-1)]) (κ := 16) ⟨hx, hb, hml, hown, hts⟩ (cz_untilDone_n l O z42 bp tp (zi_g hzz hgz)) (cwV 1 hts gL_areAlike_X6_untilDone rfl rfl rfl (by decide +kernel) ⟨Nat.le_of_ble_eq_true rfl, Nat.le_of_ble_eq_true rfl⟩) hK hst hnw hS hW tp (by decide) rfl rfl rfl hl.1 rfl (Nat.le_of_ble_eq_true rfl) dL_areAlike_259 ⟨Nat.zero_le _, Nat.zero_le _⟩) hS (fun r_43 M_41 H locs hq_42 hW hS => ?_)
                      obtain ⟨hq_42a, hq_42b⟩ := hq_42
                      rw [hq_42b] at hW
                      rw [hq_42a]
                      refine lv_icmp_ne (tgt := 269) hx hb dL_areAlike_262 (by decide) (fun c_44 => ?_) (fun c_44 => ?_)
                      · exact absurd c_44 (fun z => z rfl)
                      · refine lv_iconst (v := (nI 1)) hx hb dL_areAlike_265 (by decide) ?_
                        refine lv_goto (tgt := 270) hx hb dL_areAlike_266 (by decide) ?_
                        exact W.zret (v := (nI 1)) hx hb hr rfl (fun t ht hWm => ⟨⟨(nI 1), z42, rfl, rfl, xw_end ht hW⟩, hS.F ht⟩) hS.2.2 dL_areAlike_270
                · exact absurd (nI_le (Nat.le_refl _) (by decide)) c_23
              · obtain ⟨hW, hS, hl, hE174⟩ := hI
                refine lv_iload hx hb dL_areAlike_174 (lv_at hl 0 rfl) ?_
                refine lv_bipush (v := (nI 42)) hx hb dL_areAlike_176 (by decide) ?_
                refine lv_icmp_ge (tgt := 230) hx hb dL_areAlike_178 (by decide) (fun c_45 => ?_) (fun c_45 => ?_)
                · exact absurd c_45 (nI_ge hk174 (by decide))
                · refine lv_iload hx hb dL_areAlike_181 (lv_at hl 2 rfl) ?_
                  refine lv_if_eq (tgt := 221) hx hb dL_areAlike_183 (by decide) (fun c_46 => ?_) (fun c_46 => ?_)
                  · exact absurd c_46 (by decide)
                  · refine lv_aload_n hx hb dL_areAlike_186 rfl (lv_at hl 3 rfl) ?_
                    refine lv_iload hx hb dL_areAlike_187 (lv_at hl 0 rfl) ?_
                    refine lv_bipush (v := (nI 7)) hx hb dL_areAlike_189 (by decide) ?_
                    refine lv_idiv hx hb dL_areAlike_191 (nI_ne0 (by omega) (by omega)) ?_
                    rw [show (nI k174) / (nI 7) = (nI (k174 / 7)) from pk_div (by omega) (by omega) (by omega)]
                    refine lv_iload hx hb dL_areAlike_192 (lv_at hl 0 rfl) ?_
                    refine lv_bipush (v := (nI 7)) hx hb dL_areAlike_194 (by decide) ?_
                    refine lv_irem hx hb dL_areAlike_196 (nI_ne0 (by omega) (by omega)) ?_
                    rw [show (nI k174) - (nI k174) / (nI 7) * (nI 7) = (nI (k174 % 7)) from pk_rem (by omega) (by omega) (by omega)]
                    refine xc_i (xr_V (As := [.int (nI (k174 / 7)), .int (nI (k174 % 7))]) (rest := []) (κ := 16) ⟨hx, hb, hml, hown, hts⟩ (cz_windowOf l O z42 b tb (w := (k174 / 7)) (jj := (k174 % 7)) (by omega) (by omega)) (cwV 2 hts gL_areAlike_X6_windowOf rfl rfl rfl (by decide +kernel) ⟨Nat.le_of_ble_eq_true rfl, Nat.le_of_ble_eq_true rfl⟩) hK hst hnw hS hW tb (by decide) rfl rfl rfl hl.1 rfl (Nat.le_of_ble_eq_true rfl) dL_areAlike_197 ⟨Nat.zero_le _, Nat.zero_le _⟩) hS (fun r_49 M_47 H locs hq_48 hW hS => ?_)
                    obtain ⟨hq_48a, hq_48b⟩ := hq_48
                    rw [hq_48b] at hW
                    rw [hq_48a]
                    refine lv_aload_n hx hb dL_areAlike_200 rfl (lv_at hl 4 rfl) ?_
                    refine lv_iload hx hb dL_areAlike_201 (lv_at hl 0 rfl) ?_
                    refine lv_bipush (v := (nI 7)) hx hb dL_areAlike_203 (by decide) ?_
                    refine lv_idiv hx hb dL_areAlike_205 (nI_ne0 (by omega) (by omega)) ?_
                    rw [show (nI k174) / (nI 7) = (nI (k174 / 7)) from pk_div (by omega) (by omega) (by omega)]
                    refine lv_iload hx hb dL_areAlike_206 (lv_at hl 0 rfl) ?_
                    refine lv_bipush (v := (nI 7)) hx hb dL_areAlike_208 (by decide) ?_
                    refine lv_irem hx hb dL_areAlike_210 (nI_ne0 (by omega) (by omega)) ?_
                    rw [show (nI k174) - (nI k174) / (nI 7) * (nI 7) = (nI (k174 % 7)) from pk_rem (by omega) (by omega) (by omega)]
                    refine xc_i (xr_V (As := [.int (nI (k174 / 7)), .int (nI (k174 % 7))]) (rest := [.int (zf_wi (b + 1) z42 (k174 / 7) (k174 % 7))]) (κ := 16) ⟨hx, hb, hml, hown, hts⟩ (cz_windowOf l O z42 bp tp (w := (k174 / 7)) (jj := (k174 % 7)) (by omega) (by omega)) (cwV 2 hts gL_areAlike_X6_windowOf rfl rfl rfl (by decide +kernel) ⟨Nat.le_of_ble_eq_true rfl, Nat.le_of_ble_eq_true rfl⟩) hK hst hnw hS hW tp (by decide) rfl rfl rfl hl.1 rfl (Nat.le_of_ble_eq_true rfl) dL_areAlike_211 ⟨Nat.zero_le _, Nat.zero_le _⟩) hS (fun r_52 M_50 H locs hq_51 hW hS => ?_)
                    obtain ⟨hq_51a, hq_51b⟩ := hq_51
                    rw [hq_51b] at hW
                    rw [hq_51a]
                    rw [show (zf_wi (bp + 1) z42 (k174 / 7) (k174 % 7)) = (zf_wi (b + 1) z42 (k174 / 7) (k174 % 7)) from zg_wi hgz (by omega) _]
                    refine lv_icmp_ne (tgt := 221) hx hb dL_areAlike_214 (by decide) (fun c_53 => ?_) (fun c_53 => ?_)
                    · exact absurd c_53 (fun z => z rfl)
                    · refine lv_iconst (v := (nI 1)) hx hb dL_areAlike_217 (by decide) ?_
                      refine lv_goto (tgt := 222) hx hb dL_areAlike_218 (by decide) ?_
                      refine lv_istore (lv' := [(4, .int (nI 1)), (5, .int (nI k174)), (3, .int (nI n)), (0, .ref b), (1, .ref bp), (2, .int vx)]) hx hb dL_areAlike_222 hl (by decide) rfl (fun ls hl => ?_)
                      refine lv_iinc (v := (nI (k174 + 1))) (lv' := [(5, .int (nI (k174 + 1))), (4, .int (nI 1)), (3, .int (nI n)), (0, .ref b), (1, .ref bp), (2, .int vx)]) hx hb dL_areAlike_224 hl (k := 1) rfl ((nI_1 k174)) (by decide) rfl (fun ls hl => ?_)
                      refine lv_goto (tgt := 174) hx hb dL_areAlike_227 (by decide) ?_
                      exact ih174 () _ _ _ ⟨hW, hS, lv_sub hl [0, 2, 1, 3, 4, 5] rfl, trivial⟩
            · exact absurd (nI_le (Nat.le_refl _) (by omega)) c_22
          · obtain ⟨hW, hS, hl, hE108⟩ := hI
            refine lv_iload hx hb dL_areAlike_108 (lv_at hl 0 rfl) ?_
            refine lv_aload_n hx hb dL_areAlike_110 rfl (lv_at hl 3 rfl) ?_
            refine lv_iconst (v := (nI 4)) hx hb dL_areAlike_111 (by decide) ?_
            refine xc_i (xr_V (As := [.int (nI 4)]) (rest := [.int (nI k108)]) (κ := 16) ⟨hx, hb, hml, hown, hts⟩ (cz_count l O z42 b tb (jj := 4) (by omega)) (cwV 1 hts gL_areAlike_X6_count rfl rfl rfl (by decide +kernel) ⟨Nat.le_of_ble_eq_true rfl, Nat.le_of_ble_eq_true rfl⟩) hK hst hnw hS hW tb (by decide) rfl rfl rfl hl.1 rfl (Nat.le_of_ble_eq_true rfl) dL_areAlike_112 ⟨Nat.zero_le _, Nat.zero_le _⟩) hS (fun r_56 M_54 H locs hq_55 hW hS => ?_)
            obtain ⟨hq_55a, hq_55b⟩ := hq_55
            rw [hq_55b] at hW
            rw [hq_55a]
            rw [show (zf_co (b + 1) z42 4) = (nI nn) from hzz.1.2.1]
            refine lv_icmp_ge (tgt := 171) hx hb dL_areAlike_115 (by decide) (fun c_57 => ?_) (fun c_57 => ?_)
            · exact absurd c_57 (nI_ge hk108 (by omega))
            · refine lv_iconst (v := (nI 0)) hx hb dL_areAlike_118 (by decide) ?_
              refine lv_istore (lv' := [(6, .int (nI 0)), (5, .int (nI k108)), (3, .int (nI n)), (4, .int (nI 1)), (0, .ref b), (1, .ref bp), (2, .int vx)]) hx hb dL_areAlike_119 hl (by decide) rfl (fun ls hl => ?_)
              refine xl_up (σ := Unit) 9 (fun kk zz H locs ls => xw_D G g τ z42 H ∧ va_S A s.heap H locs ∧ lv_has ls 7 [(6, .int (nI kk)), (5, .int (nI k108)), (3, .int (nI n)), (4, .int (nI 1)), (0, .ref b), (1, .ref bp), (2, .int vx)] ∧ True) (fun z121 H locs ls hI => ?_) (fun k121 z121 H locs ls hk121 hI ih121 => ?_) (k0 := 0) (z0 := ()) (Nat.zero_le _) ⟨hW, hS, lv_sub hl [0, 1, 2, 3, 4, 5, 6] rfl, trivial⟩
              · obtain ⟨hW, hS, hl, hE121⟩ := hI
                refine lv_iload hx hb dL_areAlike_121 (lv_at hl 0 rfl) ?_
                refine lv_bipush (v := (nI 9)) hx hb dL_areAlike_123 (by decide) ?_
                refine lv_icmp_ge (tgt := 165) hx hb dL_areAlike_125 (by decide) (fun c_58 => ?_) (fun c_58 => ?_)
                · refine lv_iinc (v := (nI (k108 + 1))) (lv' := [(5, .int (nI (k108 + 1))), (6, .int (nI 9)), (3, .int (nI n)), (4, .int (nI 1)), (0, .ref b), (1, .ref bp), (2, .int vx)]) hx hb dL_areAlike_165 hl (k := 1) rfl ((nI_1 k108)) (by decide) rfl (fun ls hl => ?_)
                  refine lv_goto (tgt := 108) hx hb dL_areAlike_168 (by decide) ?_
                  exact ih108 () _ _ _ ⟨hW, hS, lv_sub hl [0, 2, 3, 4, 5, 6] rfl, trivial⟩
                · exact absurd (nI_le (Nat.le_refl _) (by decide)) c_58
              · obtain ⟨hW, hS, hl, hE121⟩ := hI
                refine lv_iload hx hb dL_areAlike_121 (lv_at hl 0 rfl) ?_
                refine lv_bipush (v := (nI 9)) hx hb dL_areAlike_123 (by decide) ?_
                refine lv_icmp_ge (tgt := 165) hx hb dL_areAlike_125 (by decide) (fun c_59 => ?_) (fun c_59 => ?_)
                · exact absurd c_59 (nI_ge hk121 (by decide))
                · refine lv_iload hx hb dL_areAlike_128 (lv_at hl 3 rfl) ?_
                  refine lv_if_eq (tgt := 156) hx hb dL_areAlike_130 (by decide) (fun c_60 => ?_) (fun c_60 => ?_)
                  · exact absurd c_60 (by decide)
                  · refine lv_aload_n hx hb dL_areAlike_133 rfl (lv_at hl 4 rfl) ?_
                    refine lv_iload hx hb dL_areAlike_134 (lv_at hl 1 rfl) ?_
                    refine lv_iload hx hb dL_areAlike_136 (lv_at hl 0 rfl) ?_
                    refine xc_i (xr_V (As := [.int (nI k108), .int (nI k121)]) (rest := []) (κ := 16) ⟨hx, hb, hml, hown, hts⟩ (cz_person l O z42 b tb hzz (k := k108) (jj := k121) hk108 (by omega)) (cwV 2 hts gL_areAlike_X6_person rfl rfl rfl (by decide +kernel) ⟨Nat.le_of_ble_eq_true rfl, Nat.le_of_ble_eq_true rfl⟩) hK hst hnw hS hW tb (by decide) rfl rfl rfl hl.1 rfl (Nat.le_of_ble_eq_true rfl) dL_areAlike_138 ⟨Nat.zero_le _, Nat.zero_le _⟩) hS (fun r_63 M_61 H locs hq_62 hW hS => ?_)
                    obtain ⟨hq_62a, hq_62b⟩ := hq_62
                    rw [hq_62b] at hW
                    rw [hq_62a]
                    refine lv_aload_n hx hb dL_areAlike_141 rfl (lv_at hl 5 rfl) ?_
                    refine lv_iload hx hb dL_areAlike_142 (lv_at hl 1 rfl) ?_
                    refine lv_iload hx hb dL_areAlike_144 (lv_at hl 0 rfl) ?_
                    refine xc_i (xr_V (As := [.int (nI k108), .int (nI k121)]) (rest := [.int (zf_pe (b + 1) z42 k108 k121)]) (κ := 16) ⟨hx, hb, hml, hown, hts⟩ (cz_person l O z42 bp tp (zi_g hzz hgz) (k := k108) (jj := k121) hk108 (by omega)) (cwV 2 hts gL_areAlike_X6_person rfl rfl rfl (by decide +kernel) ⟨Nat.le_of_ble_eq_true rfl, Nat.le_of_ble_eq_true rfl⟩) hK hst hnw hS hW tp (by decide) rfl rfl rfl hl.1 rfl (Nat.le_of_ble_eq_true rfl) dL_areAlike_146 ⟨Nat.zero_le _, Nat.zero_le _⟩) hS (fun r_66 M_64 H locs hq_65 hW hS => ?_)
                    obtain ⟨hq_65a, hq_65b⟩ := hq_65
                    rw [hq_65b] at hW
                    rw [hq_65a]
                    rw [show (zf_pe (bp + 1) z42 k108 k121) = (zf_pe (b + 1) z42 k108 k121) from zg_pe hgz (by omega) k121]
                    refine lv_icmp_ne (tgt := 156) hx hb dL_areAlike_149 (by decide) (fun c_67 => ?_) (fun c_67 => ?_)
                    · exact absurd c_67 (fun z => z rfl)
                    · refine lv_iconst (v := (nI 1)) hx hb dL_areAlike_152 (by decide) ?_
                      refine lv_goto (tgt := 157) hx hb dL_areAlike_153 (by decide) ?_
                      refine lv_istore (lv' := [(4, .int (nI 1)), (6, .int (nI k121)), (5, .int (nI k108)), (3, .int (nI n)), (0, .ref b), (1, .ref bp), (2, .int vx)]) hx hb dL_areAlike_157 hl (by decide) rfl (fun ls hl => ?_)
                      refine lv_iinc (v := (nI (k121 + 1))) (lv' := [(6, .int (nI (k121 + 1))), (4, .int (nI 1)), (5, .int (nI k108)), (3, .int (nI n)), (0, .ref b), (1, .ref bp), (2, .int vx)]) hx hb dL_areAlike_159 hl (k := 1) rfl ((nI_1 k121)) (by decide) rfl (fun ls hl => ?_)
                      refine lv_goto (tgt := 121) hx hb dL_areAlike_162 (by decide) ?_
                      exact ih121 () _ _ _ ⟨hW, hS, lv_sub hl [0, 2, 3, 1, 4, 5, 6] rfl, trivial⟩
        · exact absurd (nI_le (Nat.le_refl _) (by decide)) c_18
      · obtain ⟨hW, hS, hl, hE42⟩ := hI
        have hgz := hE42.g hbc hg
        have hzz : zi (b + 1) z42 nn TT TT (20 + 14256 * NN) := zi_g hz (hE42.b hbc)
        refine lv_iload hx hb dL_areAlike_42 (lv_at hl 0 rfl) ?_
        refine lv_bipush (v := (nI 15)) hx hb dL_areAlike_44 (by decide) ?_
        refine lv_icmp_ge (tgt := 105) hx hb dL_areAlike_46 (by decide) (fun c_68 => ?_) (fun c_68 => ?_)
        · exact absurd c_68 (nI_ge hk42 (by decide))
        · refine lv_iload hx hb dL_areAlike_49 (lv_at hl 2 rfl) ?_
          refine lv_if_eq (tgt := 96) hx hb dL_areAlike_51 (by decide) (fun c_69 => ?_) (fun c_69 => ?_)
          · exact absurd c_69 (by decide)
          · refine lv_aload_n hx hb dL_areAlike_54 rfl (lv_at hl 3 rfl) ?_
            refine lv_iload hx hb dL_areAlike_55 (lv_at hl 0 rfl) ?_
            refine xc_i (xr_V (As := [.int (nI k42)]) (rest := []) (κ := 16) ⟨hx, hb, hml, hown, hts⟩ (cz_count l O z42 b tb (jj := k42) (by omega)) (cwV 1 hts gL_areAlike_X6_count rfl rfl rfl (by decide +kernel) ⟨Nat.le_of_ble_eq_true rfl, Nat.le_of_ble_eq_true rfl⟩) hK hst hnw hS hW tb (by decide) rfl rfl rfl hl.1 rfl (Nat.le_of_ble_eq_true rfl) dL_areAlike_57 ⟨Nat.zero_le _, Nat.zero_le _⟩) hS (fun r_72 M_70 H locs hq_71 hW hS => ?_)
            obtain ⟨hq_71a, hq_71b⟩ := hq_71
            rw [hq_71b] at hW
            rw [hq_71a]
            refine lv_aload_n hx hb dL_areAlike_60 rfl (lv_at hl 4 rfl) ?_
            refine lv_iload hx hb dL_areAlike_61 (lv_at hl 0 rfl) ?_
            refine xc_i (xr_V (As := [.int (nI k42)]) (rest := [.int (zf_co (b + 1) z42 k42)]) (κ := 16) ⟨hx, hb, hml, hown, hts⟩ (cz_count l O z42 bp tp (jj := k42) (by omega)) (cwV 1 hts gL_areAlike_X6_count rfl rfl rfl (by decide +kernel) ⟨Nat.le_of_ble_eq_true rfl, Nat.le_of_ble_eq_true rfl⟩) hK hst hnw hS hW tp (by decide) rfl rfl rfl hl.1 rfl (Nat.le_of_ble_eq_true rfl) dL_areAlike_63 ⟨Nat.zero_le _, Nat.zero_le _⟩) hS (fun r_75 M_73 H locs hq_74 hW hS => ?_)
            obtain ⟨hq_74a, hq_74b⟩ := hq_74
            rw [hq_74b] at hW
            rw [hq_74a]
            rw [show (zf_co (bp + 1) z42 k42) = (zf_co (b + 1) z42 k42) from zg_co hgz k42]
            refine lv_icmp_ne (tgt := 96) hx hb dL_areAlike_66 (by decide) (fun c_76 => ?_) (fun c_76 => ?_)
            · exact absurd c_76 (fun z => z rfl)
            · refine lv_iload hx hb dL_areAlike_69 (lv_at hl 0 rfl) ?_
              refine lv_iconst (v := (nI 3)) hx hb dL_areAlike_71 (by decide) ?_
              refine lv_icmp_gt (tgt := 92) hx hb dL_areAlike_72 (by decide) (fun c_77 => ?_) (fun c_77 => ?_)
              · refine lv_iconst (v := (nI 1)) hx hb dL_areAlike_92 (by decide) ?_
                refine lv_goto (tgt := 97) hx hb dL_areAlike_93 (by decide) ?_
                refine lv_istore (lv' := [(4, .int (nI 1)), (5, .int (nI k42)), (3, .int (nI n)), (0, .ref b), (1, .ref bp), (2, .int vx)]) hx hb dL_areAlike_97 hl (by decide) rfl (fun ls hl => ?_)
                refine lv_iinc (v := (nI (k42 + 1))) (lv' := [(5, .int (nI (k42 + 1))), (4, .int (nI 1)), (3, .int (nI n)), (0, .ref b), (1, .ref bp), (2, .int vx)]) hx hb dL_areAlike_99 hl (k := 1) rfl ((nI_1 k42)) (by decide) rfl (fun ls hl => ?_)
                refine lv_goto (tgt := 42) hx hb dL_areAlike_102 (by decide) ?_
                exact ih42 z42 _ _ _ ⟨hW, hS, lv_sub hl [0, 2, 1, 3, 4, 5] rfl, hE42⟩
              · have hk4 : k42 < 4 := by rcases Nat.lt_or_ge k42 4 with q | q; exact q; exact absurd (nI_lt (show 3 < k42 by omega) (by omega)) c_77
                refine lv_aload_n hx hb dL_areAlike_75 rfl (lv_at hl 3 rfl) ?_
                refine lv_iload_n hx hb dL_areAlike_76 rfl (lv_at hl 1 rfl) ?_
                refine lv_iload hx hb dL_areAlike_77 (lv_at hl 0 rfl) ?_
                refine xc_i (xr_V (As := [.int (nI n), .int (nI k42)]) (rest := []) (κ := 16) ⟨hx, hb, hml, hown, hts⟩ (cz_ifPassed l O z42 b tb hzz hE42.2.1.1 (by omega) (n := n) (jj := k42) (by omega) (by omega) hk4) (cwV 2 hts gL_areAlike_X6_ifPassed rfl rfl rfl (by decide +kernel) ⟨Nat.le_of_ble_eq_true rfl, Nat.le_of_ble_eq_true rfl⟩) hK hst hnw hS hW tb (by decide) rfl rfl rfl hl.1 rfl (Nat.le_of_ble_eq_true rfl) dL_areAlike_79 ⟨Nat.zero_le _, Nat.zero_le _⟩) hS (fun r_80 M_78 H locs hq_79 hW hS => ?_)
                obtain ⟨hq_79a, hy3⟩ := hq_79
                rw [hq_79a]
                have hA3 := zA_b hbc hE42 hy3
                refine lv_aload_n hx hb dL_areAlike_82 rfl (lv_at hl 4 rfl) ?_
                refine lv_iload_n hx hb dL_areAlike_83 rfl (lv_at hl 1 rfl) ?_
                refine lv_iload hx hb dL_areAlike_84 (lv_at hl 0 rfl) ?_
                have hzc2 : zi (bp + 1) M_78 nn TT TT (20 + 14256 * NN) := zi_g (zi_g hz hg) (hA3.c hbc)
                refine xc_i (xr_V (As := [.int (nI n), .int (nI k42)]) (rest := [.int (zf_if (b + 83) (zm_it (zm_ti (b + 83)) n (zy_c b z42)) (b + 1) z42 k42)]) (κ := 16) ⟨hx, hb, hml, hown, hts⟩ (cz_ifPassed l O M_78 bp tp hzc2 hA3.2.2.1 (by omega) (n := n) (jj := k42) (by omega) (by omega) hk4) (cwV 2 hts gL_areAlike_X6_ifPassed rfl rfl rfl (by decide +kernel) ⟨Nat.le_of_ble_eq_true rfl, Nat.le_of_ble_eq_true rfl⟩) hK hst hnw hS hW tp (by decide) rfl rfl rfl hl.1 rfl (Nat.le_of_ble_eq_true rfl) dL_areAlike_86 ⟨Nat.zero_le _, Nat.zero_le _⟩) hS (fun r_83 M_81 H locs hq_82 hW hS => ?_)
                obtain ⟨hq_82a, hy4⟩ := hq_82
                rw [hq_82a, zg_if (zZ_tn (zZ_rf (zA_y hbc hgz hy3)) n).1 (zA_z hbc hgz hy3)]
                have hA4 := zA_c hbc hA3 hy4
                refine lv_icmp_ne (tgt := 96) hx hb dL_areAlike_89 (by decide) (fun c_84 => ?_) (fun c_84 => ?_)
                · exact absurd c_84 (fun z => z rfl)
                · refine lv_iconst (v := (nI 1)) hx hb dL_areAlike_92 (by decide) ?_
                  refine lv_goto (tgt := 97) hx hb dL_areAlike_93 (by decide) ?_
                  refine lv_istore (lv' := [(4, .int (nI 1)), (5, .int (nI k42)), (3, .int (nI n)), (0, .ref b), (1, .ref bp), (2, .int vx)]) hx hb dL_areAlike_97 hl (by decide) rfl (fun ls hl => ?_)
                  refine lv_iinc (v := (nI (k42 + 1))) (lv' := [(5, .int (nI (k42 + 1))), (4, .int (nI 1)), (3, .int (nI n)), (0, .ref b), (1, .ref bp), (2, .int vx)]) hx hb dL_areAlike_99 hl (k := 1) rfl ((nI_1 k42)) (by decide) rfl (fun ls hl => ?_)
                  refine lv_goto (tgt := 42) hx hb dL_areAlike_102 (by decide) ?_
                  exact ih42 M_81 _ _ _ ⟨hW, hS, lv_sub hl [0, 2, 1, 3, 4, 5] rfl, hA4⟩
