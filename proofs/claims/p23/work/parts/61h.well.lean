/-! THE LAW: isWell -/

set_option maxHeartbeats 4000000 in
set_option maxRecDepth 100000 in
/-- isWell(o) -/
theorem c_L_isWell (l : Launch) {G : va_G} {g : Nat → ClassId} {t0 τ : Nat → Nat} {A : Nat → Prop} (O : xk_O τ A) (M : xm_T) (b : Nat) (tb : τ b = 16) {nn TT BB : Nat} (hz : zi (b + 1) M nn TT TT BB) (hB : BB < 2 ^ 30) (hTT : TT < 2 ^ 30) : Met l yL_isWell wsL_isWell ({ frames := 6, cells := 1, slots := 4, locals := 200 }) (va_Pc [.ref b] (fun U => xS_t G g t0 τ A M U ∧ ∀ q, U.heap.size ≤ q → A q)) (va_Qi (fun r M' => r = nI 1 ∧ M' = M) (fun M' t => xw_D G g τ M' t.heap) A) 1 4 A := by
  refine Met.ofW (cc := cL_isWell) (maxL := 14) (ret := (some .boolean)) (by decide) rfl ?_
  intro p e s m args below meth c s₁ B hml hv
  obtain ⟨rfl, ⟨hW, hK, hst, hnw⟩, hAq⟩ := hv
  have hx := B.exec
  have hb := B.bytes
  have hr := B.returns
  have hts := atoms_spec (ws := wsL_isWell) B.pre
  have hown : s.vm.findClass RL = some m.cls := findClass_of_methodNamed B.named
  have hlocks := B.notSynchronized
  have hS : va_S A s.heap s.heap [] := va_S.rf
  have hl := lv_entry ([.ref b]) (n := 14) (Nat.le_of_ble_eq_true rfl)
  rw [lg_entry_eq]
  generalize (lg_sl ([.ref b]) ++ List.replicate (14 - (lg_sl ([.ref b])).length) Slot.unset).toArray = ls at hl ⊢
  have hl : lv_has ls 14 [(0, .ref b)] := hl
  refine lv_iconst (v := (nI 0)) hx hb dL_isWell_0 (by decide) ?_
  refine lv_istore_n (lv' := [(1, .int (nI 0)), (0, .ref b)]) hx hb dL_isWell_1 rfl hl (by decide) rfl (fun ls hl => ?_)
  refine lv_iconst (v := (nI 0)) hx hb dL_isWell_2 (by decide) ?_
  refine lv_istore_n (lv' := [(2, .int (nI 0)), (1, .int (nI 0)), (0, .ref b)]) hx hb dL_isWell_3 rfl hl (by decide) rfl (fun ls hl => ?_)
  refine lv_iconst (v := (nI 0)) hx hb dL_isWell_4 (by decide) ?_
  refine lv_istore_n (lv' := [(3, .int (nI 0)), (2, .int (nI 0)), (1, .int (nI 0)), (0, .ref b)]) hx hb dL_isWell_5 rfl hl (by decide) rfl (fun ls hl => ?_)
  refine lv_iconst (v := (nI 0)) hx hb dL_isWell_6 (by decide) ?_
  refine lv_istore (lv' := [(4, .int (nI 0)), (3, .int (nI 0)), (2, .int (nI 0)), (1, .int (nI 0)), (0, .ref b)]) hx hb dL_isWell_7 hl (by decide) rfl (fun ls hl => ?_)
  refine lv_iconst (v := (nI 0)) hx hb dL_isWell_9 (by decide) ?_
  refine lv_istore (lv' := [(5, .int (nI 0)), (4, .int (nI 0)), (3, .int (nI 0)), (2, .int (nI 0)), (1, .int (nI 0)), (0, .ref b)]) hx hb dL_isWell_10 hl (by decide) rfl (fun ls hl => ?_)
  refine lv_iconst (v := (nI 0)) hx hb dL_isWell_12 (by decide) ?_
  refine lv_istore (lv' := [(6, .int (nI 0)), (5, .int (nI 0)), (4, .int (nI 0)), (3, .int (nI 0)), (2, .int (nI 0)), (1, .int (nI 0)), (0, .ref b)]) hx hb dL_isWell_13 hl (by decide) rfl (fun ls hl => ?_)
  refine lv_iconst (v := (nI 0)) hx hb dL_isWell_15 (by decide) ?_
  refine lv_istore (lv' := [(7, .int (nI 0)), (6, .int (nI 0)), (5, .int (nI 0)), (4, .int (nI 0)), (3, .int (nI 0)), (2, .int (nI 0)), (1, .int (nI 0)), (0, .ref b)]) hx hb dL_isWell_16 hl (by decide) rfl (fun ls hl => ?_)
  refine lv_iconst (v := (nI 4)) hx hb dL_isWell_18 (by decide) ?_
  refine xk_newa (atype := .int) (h := s.heap.size) (N := 4) hx hb (hts (.arrayClass .int) (List.mem_of_getElem? (i := 1) (by decide +kernel))) (hK.2 0 _ rfl).2 hS rfl rfl (by decide) (Nat.le_of_ble_eq_true rfl) (Nat.le_of_ble_eq_true rfl) (Nat.le_of_ble_eq_true rfl) dL_isWell_19 (fun H fa hz9 ho hS => ?_)
  have fa : va_at G vwCl (s.heap.size, .inl (g 0, 4, .inl (fun _ => nI 0))) H := fa
  have h0 : τ s.heap.size = 0 := by by_cases q : τ s.heap.size = 0; exact q; exact absurd (xw_lt hW q) (Nat.lt_irrefl _)
  have hsz : b + 826 < s.heap.size := xw_lt hW (x := b + 826) (by rw [show τ (b + 826) = 15 from O.d (O.b6 tb)]; decide)
  replace hW : xw_D G g (zt_x τ s.heap.size) (xr_up M s.heap.size (zw_r (b + 1) M 0)) H := xw_ext hW rfl fa ho
  have tb2 : zt_x τ s.heap.size b = 16 := by rw [zt_xn (show ¬ b = s.heap.size by omega)]; exact tb
  have O := xk_O_ext O h0 (hAq _ (Nat.le_refl _))
  have hzr : ∀ r, zi (b + 1) (xr_up M s.heap.size r) nn TT TT BB := fun r => zi_g hz (zg_of (fun x y1 y2 => xr_n _ _ (by omega)))
  have hgr : ∀ r, zz_g (b + 1) (b + 1) M (xr_up M s.heap.size r) := fun r => zg_of (fun x y1 y2 => xr_n _ _ (by omega))
  obtain ⟨Q, Rq, hold⟩ := zi_L.old hz
  have hnn := hz.n
  refine lv_astore (lv' := [(8, .ref s.heap.size), (7, .int (nI 0)), (6, .int (nI 0)), (5, .int (nI 0)), (4, .int (nI 0)), (3, .int (nI 0)), (2, .int (nI 0)), (1, .int (nI 0)), (0, .ref b)]) hx hb dL_isWell_21 hl (by decide) rfl (fun ls hl => ?_)
  refine lv_iconst (v := (nI 1)) hx hb dL_isWell_23 (by decide) ?_
  refine lv_istore (lv' := [(9, .int (nI 1)), (8, .ref s.heap.size), (7, .int (nI 0)), (6, .int (nI 0)), (5, .int (nI 0)), (4, .int (nI 0)), (3, .int (nI 0)), (2, .int (nI 0)), (1, .int (nI 0)), (0, .ref b)]) hx hb dL_isWell_24 hl (by decide) rfl (fun ls hl => ?_)
  refine lv_iconst (v := (nI 0)) hx hb dL_isWell_26 (by decide) ?_
  refine lv_istore (lv' := [(10, .int (nI 0)), (9, .int (nI 1)), (8, .ref s.heap.size), (7, .int (nI 0)), (6, .int (nI 0)), (5, .int (nI 0)), (4, .int (nI 0)), (3, .int (nI 0)), (2, .int (nI 0)), (1, .int (nI 0)), (0, .ref b)]) hx hb dL_isWell_27 hl (by decide) rfl (fun ls hl => ?_)
  refine xl_up (σ := Unit) nn (fun kk zz H locs ls => xw_D G g (zt_x τ s.heap.size) (xr_up M s.heap.size (zw_r (b + 1) M kk)) H ∧ va_S A s.heap H locs ∧ lv_has ls 14 [(10, .int (nI kk)), (2, .int (nI 0)), (5, .int (nI 0)), (6, .int (nI 0)), (1, .int (xf_sum (fun i => zm_h (M (b + 1 + 2 * i + 34) 5)) kk)), (3, .int (xf_sum (fun i => M (b + 1 + 2 * i + 34) 7) kk)), (4, .int (xf_sum (fun i => M (b + 1 + 2 * i + 34) 9) kk)), (7, .int (xf_sum (fun i => M (b + 1 + 2 * i + 34) 4) kk)), (8, .ref s.heap.size), (9, .int (nI 1)), (0, .ref b)] ∧ True) (fun z29 H locs ls hI => ?_) (fun k29 z29 H locs ls hk29 hI ih29 => ?_) (k0 := 0) (z0 := ()) (Nat.zero_le _) ⟨hW, hS, lv_sub hl [0, 8, 5, 4, 9, 7, 6, 3, 2, 1, 10] rfl, trivial⟩
  · obtain ⟨hW, hS, hl, hE29⟩ := hI
    refine lv_iload hx hb dL_isWell_29 (lv_at hl 0 rfl) ?_
    refine lv_aload_n hx hb dL_isWell_31 rfl (lv_at hl 10 rfl) ?_
    refine lv_iconst (v := (nI 4)) hx hb dL_isWell_32 (by decide) ?_
    refine xc_i (xr_V (As := [.int (nI 4)]) (rest := [.int (nI nn)]) (κ := 16) ⟨hx, hb, hml, hown, hts⟩ (cz_count l O (xr_up M s.heap.size (zw_r (b + 1) M nn)) b tb2 (jj := 4) (by omega)) (cwV 1 hts gL_isWell_X6_count rfl rfl rfl (by decide +kernel) ⟨Nat.le_of_ble_eq_true rfl, Nat.le_of_ble_eq_true rfl⟩) hK hst hnw hS hW tb2 (by decide) rfl rfl rfl hl.1 rfl (Nat.le_of_ble_eq_true rfl) dL_isWell_33 ⟨Nat.le_of_ble_eq_true rfl, Nat.le_of_ble_eq_true rfl⟩) hS (fun r_3 M_1 H locs hq_2 hW hS => ?_)
    obtain ⟨hq_2a, hq_2b⟩ := hq_2
    rw [hq_2b] at hW
    rw [hq_2a]
    rw [show (zf_co (b + 1) (xr_up M s.heap.size (zw_r (b + 1) M nn)) 4) = (nI nn) from ((zg_co (hgr _) 4).trans hz.1.2.1)]
    refine lv_icmp_ge (tgt := 290) hx hb dL_isWell_36 (by decide) (fun c_4 => ?_) (fun c_4 => ?_)
    · refine lv_iconst (v := (nI 0)) hx hb dL_isWell_290 (by decide) ?_
      refine lv_istore (lv' := [(10, .int (nI 0)), (2, .int (nI 0)), (5, .int (nI 0)), (6, .int (nI 0)), (1, .int (xf_sum (fun i => zm_h (M (b + 1 + 2 * i + 34) 5)) nn)), (3, .int (xf_sum (fun i => M (b + 1 + 2 * i + 34) 7) nn)), (4, .int (xf_sum (fun i => M (b + 1 + 2 * i + 34) 9) nn)), (7, .int (xf_sum (fun i => M (b + 1 + 2 * i + 34) 4) nn)), (8, .ref s.heap.size), (9, .int (nI 1)), (0, .ref b)]) hx hb dL_isWell_291 hl (by decide) rfl (fun ls hl => ?_)
      refine xl_up (σ := Unit) 6 (fun kk zz H locs ls => xw_D G g (zt_x τ s.heap.size) (xr_up M s.heap.size (zw_r (b + 1) M nn)) H ∧ va_S A s.heap H locs ∧ lv_has ls 14 [(10, .int (nI kk)), (2, .int (xf_sum (fun i => M (b + 1 + 5 * i + 4) 2) kk)), (6, .int (xf_sum (fun i => M (b + 1 + 5 * i + 4) 3) kk)), (5, .int (xf_sum (fun i => M (b + 1 + 5 * i + 4) 4) kk)), (1, .int (xf_sum (fun i => zm_h (M (b + 1 + 2 * i + 34) 5)) nn)), (3, .int (xf_sum (fun i => M (b + 1 + 2 * i + 34) 7) nn)), (4, .int (xf_sum (fun i => M (b + 1 + 2 * i + 34) 9) nn)), (7, .int (xf_sum (fun i => M (b + 1 + 2 * i + 34) 4) nn)), (8, .ref s.heap.size), (9, .int (nI 1)), (0, .ref b)] ∧ True) (fun z293 H locs ls hI => ?_) (fun k293 z293 H locs ls hk293 hI ih293 => ?_) (k0 := 0) (z0 := ()) (Nat.zero_le _) ⟨hW, hS, lv_sub hl [0, 1, 3, 2, 4, 5, 6, 7, 8, 9, 10] rfl, trivial⟩
      · obtain ⟨hW, hS, hl, hE293⟩ := hI
        refine lv_iload hx hb dL_isWell_293 (lv_at hl 0 rfl) ?_
        refine lv_bipush (v := (nI 6)) hx hb dL_isWell_295 (by decide) ?_
        refine lv_icmp_ge (tgt := 468) hx hb dL_isWell_297 (by decide) (fun c_5 => ?_) (fun c_5 => ?_)
        · refine lv_iconst (v := (nI 0)) hx hb dL_isWell_468 (by decide) ?_
          refine lv_istore (lv' := [(10, .int (nI 0)), (2, .int (xf_sum (fun i => M (b + 1 + 5 * i + 4) 2) 6)), (6, .int (xf_sum (fun i => M (b + 1 + 5 * i + 4) 3) 6)), (5, .int (xf_sum (fun i => M (b + 1 + 5 * i + 4) 4) 6)), (1, .int (xf_sum (fun i => zm_h (M (b + 1 + 2 * i + 34) 5)) nn)), (3, .int (xf_sum (fun i => M (b + 1 + 2 * i + 34) 7) nn)), (4, .int (xf_sum (fun i => M (b + 1 + 2 * i + 34) 9) nn)), (7, .int (xf_sum (fun i => M (b + 1 + 2 * i + 34) 4) nn)), (8, .ref s.heap.size), (9, .int (nI 1)), (0, .ref b)]) hx hb dL_isWell_469 hl (by decide) rfl (fun ls hl => ?_)
          refine xl_up (σ := Unit) 4 (fun kk zz H locs ls => xw_D G g (zt_x τ s.heap.size) (xr_up M s.heap.size (zw_r (b + 1) M nn)) H ∧ va_S A s.heap H locs ∧ lv_has ls 14 [(10, .int (nI kk)), (2, .int (xf_sum (fun i => M (b + 1 + 5 * i + 4) 2) 6)), (6, .int (xf_sum (fun i => M (b + 1 + 5 * i + 4) 3) 6)), (5, .int (xf_sum (fun i => M (b + 1 + 5 * i + 4) 4) 6)), (1, .int (xf_sum (fun i => zm_h (M (b + 1 + 2 * i + 34) 5)) nn)), (3, .int (xf_sum (fun i => M (b + 1 + 2 * i + 34) 7) nn)), (4, .int (xf_sum (fun i => M (b + 1 + 2 * i + 34) 9) nn)), (7, .int (xf_sum (fun i => M (b + 1 + 2 * i + 34) 4) nn)), (8, .ref s.heap.size), (9, .int (nI 1)), (0, .ref b)] ∧ True) (fun z471 H locs ls hI => ?_) (fun k471 z471 H locs ls hk471 hI ih471 => ?_) (k0 := 0) (z0 := ()) (Nat.zero_le _) ⟨hW, hS, lv_sub hl [0, 1, 2, 3, 4, 5, 6, 7, 8, 9, 10] rfl, trivial⟩
          · obtain ⟨hW, hS, hl, hE471⟩ := hI
            refine lv_iload hx hb dL_isWell_471 (lv_at hl 0 rfl) ?_
            refine lv_iconst (v := (nI 4)) hx hb dL_isWell_473 (by decide) ?_
            refine lv_icmp_ge (tgt := 511) hx hb dL_isWell_474 (by decide) (fun c_6 => ?_) (fun c_6 => ?_)
            · refine lv_iload hx hb dL_isWell_511 (lv_at hl 9 rfl) ?_
              refine lv_if_eq (tgt := 600) hx hb dL_isWell_513 (by decide) (fun c_7 => ?_) (fun c_7 => ?_)
              · exact absurd c_7 (by decide)
              · refine lv_iload_n hx hb dL_isWell_516 rfl (lv_at hl 4 rfl) ?_
                refine lv_aload_n hx hb dL_isWell_517 rfl (lv_at hl 10 rfl) ?_
                refine lv_bipush (v := (nI 10)) hx hb dL_isWell_518 (by decide) ?_
                refine xc_i (xr_V (As := [.int (nI 10)]) (rest := [.int (xf_sum (fun i => zm_h (M (b + 1 + 2 * i + 34) 5)) nn)]) (κ := 16) ⟨hx, hb, hml, hown, hts⟩ (cz_count l O (xr_up M s.heap.size (zw_r (b + 1) M nn)) b tb2 (jj := 10) (by omega)) (cwV 1 hts gL_isWell_X6_count rfl rfl rfl (by decide +kernel) ⟨Nat.le_of_ble_eq_true rfl, Nat.le_of_ble_eq_true rfl⟩) hK hst hnw hS hW tb2 (by decide) rfl rfl rfl hl.1 rfl (Nat.le_of_ble_eq_true rfl) dL_isWell_520 ⟨Nat.le_of_ble_eq_true rfl, Nat.le_of_ble_eq_true rfl⟩) hS (fun r_10 M_8 H locs hq_9 hW hS => ?_)
                obtain ⟨hq_9a, hq_9b⟩ := hq_9
                rw [hq_9b] at hW
                rw [hq_9a]
                rw [show (zf_co (b + 1) (xr_up M s.heap.size (zw_r (b + 1) M nn)) 10) = (zc_hp (b + 1) M) from ((zg_co (hgr _) 10).trans rfl)]
                refine lv_icmp_ne (tgt := 600) hx hb dL_isWell_523 (by decide) (fun c_11 => ?_) (fun c_11 => ?_)
                · exact absurd c_11 (fun z => z (zw_hp hz))
                · refine lv_iload_n hx hb dL_isWell_526 rfl (lv_at hl 1 rfl) ?_
                  refine lv_aload_n hx hb dL_isWell_527 rfl (lv_at hl 10 rfl) ?_
                  refine lv_bipush (v := (nI 9)) hx hb dL_isWell_528 (by decide) ?_
                  refine xc_i (xr_V (As := [.int (nI 9)]) (rest := [.int (xf_sum (fun i => M (b + 1 + 5 * i + 4) 2) 6)]) (κ := 16) ⟨hx, hb, hml, hown, hts⟩ (cz_count l O (xr_up M s.heap.size (zw_r (b + 1) M nn)) b tb2 (jj := 9) (by omega)) (cwV 1 hts gL_isWell_X6_count rfl rfl rfl (by decide +kernel) ⟨Nat.le_of_ble_eq_true rfl, Nat.le_of_ble_eq_true rfl⟩) hK hst hnw hS hW tb2 (by decide) rfl rfl rfl hl.1 rfl (Nat.le_of_ble_eq_true rfl) dL_isWell_530 ⟨Nat.le_of_ble_eq_true rfl, Nat.le_of_ble_eq_true rfl⟩) hS (fun r_14 M_12 H locs hq_13 hW hS => ?_)
                  obtain ⟨hq_13a, hq_13b⟩ := hq_13
                  rw [hq_13b] at hW
                  rw [hq_13a]
                  rw [show (zf_co (b + 1) (xr_up M s.heap.size (zw_r (b + 1) M nn)) 9) = (zc_hw (b + 1) M) from ((zg_co (hgr _) 9).trans rfl)]
                  refine lv_icmp_ne (tgt := 600) hx hb dL_isWell_533 (by decide) (fun c_15 => ?_) (fun c_15 => ?_)
                  · exact absurd c_15 (fun z => z rfl)
                  · refine lv_iload_n hx hb dL_isWell_536 rfl (lv_at hl 1 rfl) ?_
                    refine lv_iload_n hx hb dL_isWell_537 rfl (lv_at hl 4 rfl) ?_
                    refine lv_iadd hx hb dL_isWell_538 ?_
                    refine lv_aload_n hx hb dL_isWell_539 rfl (lv_at hl 10 rfl) ?_
                    refine lv_bipush (v := (nI 11)) hx hb dL_isWell_540 (by decide) ?_
                    refine xc_i (xr_V (As := [.int (nI 11)]) (rest := [.int ((xf_sum (fun i => M (b + 1 + 5 * i + 4) 2) 6) + (xf_sum (fun i => zm_h (M (b + 1 + 2 * i + 34) 5)) nn))]) (κ := 16) ⟨hx, hb, hml, hown, hts⟩ (cz_count l O (xr_up M s.heap.size (zw_r (b + 1) M nn)) b tb2 (jj := 11) (by omega)) (cwV 1 hts gL_isWell_X6_count rfl rfl rfl (by decide +kernel) ⟨Nat.le_of_ble_eq_true rfl, Nat.le_of_ble_eq_true rfl⟩) hK hst hnw hS hW tb2 (by decide) rfl rfl rfl hl.1 rfl (Nat.le_of_ble_eq_true rfl) dL_isWell_542 ⟨Nat.le_of_ble_eq_true rfl, Nat.le_of_ble_eq_true rfl⟩) hS (fun r_18 M_16 H locs hq_17 hW hS => ?_)
                    obtain ⟨hq_17a, hq_17b⟩ := hq_17
                    rw [hq_17b] at hW
                    rw [hq_17a]
                    rw [show (zf_co (b + 1) (xr_up M s.heap.size (zw_r (b + 1) M nn)) 11) = (M (b + 1) 5) from ((zg_co (hgr _) 11).trans rfl)]
                    refine lv_iadd hx hb dL_isWell_545 ?_
                    refine lv_bipush (v := (nI 48)) hx hb dL_isWell_546 (by decide) ?_
                    refine lv_aload_n hx hb dL_isWell_548 rfl (lv_at hl 10 rfl) ?_
                    refine lv_bipush (v := (nI 12)) hx hb dL_isWell_549 (by decide) ?_
                    refine xc_i (xr_V (As := [.int (nI 12)]) (rest := [.int (nI 48), .int (((xf_sum (fun i => M (b + 1 + 5 * i + 4) 2) 6) + (xf_sum (fun i => zm_h (M (b + 1 + 2 * i + 34) 5)) nn)) + (M (b + 1) 5))]) (κ := 16) ⟨hx, hb, hml, hown, hts⟩ (cz_count l O (xr_up M s.heap.size (zw_r (b + 1) M nn)) b tb2 (jj := 12) (by omega)) (cwV 1 hts gL_isWell_X6_count rfl rfl rfl (by decide +kernel) ⟨Nat.le_of_ble_eq_true rfl, Nat.le_of_ble_eq_true rfl⟩) hK hst hnw hS hW tb2 (by decide) rfl rfl rfl hl.1 rfl (Nat.le_of_ble_eq_true rfl) dL_isWell_551 ⟨Nat.le_of_ble_eq_true rfl, Nat.le_of_ble_eq_true rfl⟩) hS (fun r_21 M_19 H locs hq_20 hW hS => ?_)
                    obtain ⟨hq_20a, hq_20b⟩ := hq_20
                    rw [hq_20b] at hW
                    rw [hq_20a]
                    rw [show (zf_co (b + 1) (xr_up M s.heap.size (zw_r (b + 1) M nn)) 12) = (M (b + 1) 6) from ((zg_co (hgr _) 12).trans rfl)]
                    refine lv_iadd hx hb dL_isWell_554 ?_
                    refine lv_icmp_ne (tgt := 600) hx hb dL_isWell_555 (by decide) (fun c_22 => ?_) (fun c_22 => ?_)
                    · exact absurd c_22 (fun z => z (by rw [zw_hp hz]; exact hz.2.2.2.2.2.2.1))
                    · refine lv_iload_n hx hb dL_isWell_558 rfl (lv_at hl 5 rfl) ?_
                      refine lv_aload_n hx hb dL_isWell_559 rfl (lv_at hl 10 rfl) ?_
                      refine lv_bipush (v := (nI 13)) hx hb dL_isWell_560 (by decide) ?_
                      refine xc_i (xr_V (As := [.int (nI 13)]) (rest := [.int (xf_sum (fun i => M (b + 1 + 2 * i + 34) 7) nn)]) (κ := 16) ⟨hx, hb, hml, hown, hts⟩ (cz_count l O (xr_up M s.heap.size (zw_r (b + 1) M nn)) b tb2 (jj := 13) (by omega)) (cwV 1 hts gL_isWell_X6_count rfl rfl rfl (by decide +kernel) ⟨Nat.le_of_ble_eq_true rfl, Nat.le_of_ble_eq_true rfl⟩) hK hst hnw hS hW tb2 (by decide) rfl rfl rfl hl.1 rfl (Nat.le_of_ble_eq_true rfl) dL_isWell_562 ⟨Nat.le_of_ble_eq_true rfl, Nat.le_of_ble_eq_true rfl⟩) hS (fun r_25 M_23 H locs hq_24 hW hS => ?_)
                      obtain ⟨hq_24a, hq_24b⟩ := hq_24
                      rw [hq_24b] at hW
                      rw [hq_24a]
                      rw [show (zf_co (b + 1) (xr_up M s.heap.size (zw_r (b + 1) M nn)) 13) = (zc_wt (b + 1) M) from ((zg_co (hgr _) 13).trans rfl)]
                      refine lv_icmp_ne (tgt := 600) hx hb dL_isWell_565 (by decide) (fun c_26 => ?_) (fun c_26 => ?_)
                      · exact absurd c_26 (fun z => z (zw_wt hz))
                      · refine lv_iload hx hb dL_isWell_568 (lv_at hl 6 rfl) ?_
                        refine lv_aload_n hx hb dL_isWell_570 rfl (lv_at hl 10 rfl) ?_
                        refine lv_bipush (v := (nI 14)) hx hb dL_isWell_571 (by decide) ?_
                        refine xc_i (xr_V (As := [.int (nI 14)]) (rest := [.int (xf_sum (fun i => M (b + 1 + 2 * i + 34) 9) nn)]) (κ := 16) ⟨hx, hb, hml, hown, hts⟩ (cz_count l O (xr_up M s.heap.size (zw_r (b + 1) M nn)) b tb2 (jj := 14) (by omega)) (cwV 1 hts gL_isWell_X6_count rfl rfl rfl (by decide +kernel) ⟨Nat.le_of_ble_eq_true rfl, Nat.le_of_ble_eq_true rfl⟩) hK hst hnw hS hW tb2 (by decide) rfl rfl rfl hl.1 rfl (Nat.le_of_ble_eq_true rfl) dL_isWell_573 ⟨Nat.le_of_ble_eq_true rfl, Nat.le_of_ble_eq_true rfl⟩) hS (fun r_29 M_27 H locs hq_28 hW hS => ?_)
                        obtain ⟨hq_28a, hq_28b⟩ := hq_28
                        rw [hq_28b] at hW
                        rw [hq_28a]
                        rw [show (zf_co (b + 1) (xr_up M s.heap.size (zw_r (b + 1) M nn)) 14) = (zc_bk (b + 1) M) from ((zg_co (hgr _) 14).trans rfl)]
                        refine lv_icmp_ne (tgt := 600) hx hb dL_isWell_576 (by decide) (fun c_30 => ?_) (fun c_30 => ?_)
                        · exact absurd c_30 (fun z => z (zw_bk hz))
                        · refine lv_iload hx hb dL_isWell_579 (lv_at hl 3 rfl) ?_
                          refine lv_iload hx hb dL_isWell_581 (lv_at hl 6 rfl) ?_
                          refine lv_icmp_ne (tgt := 600) hx hb dL_isWell_583 (by decide) (fun c_31 => ?_) (fun c_31 => ?_)
                          · exact absurd c_31 (fun z => z (hz.2.2.2.2.2.2.2.1.trans (zw_bk hz).symm))
                          · refine lv_iload hx hb dL_isWell_586 (lv_at hl 2 rfl) ?_
                            refine lv_iload hx hb dL_isWell_588 (lv_at hl 7 rfl) ?_
                            refine lv_iload hx hb dL_isWell_590 (lv_at hl 6 rfl) ?_
                            refine lv_iadd hx hb dL_isWell_592 ?_
                            refine lv_icmp_ne (tgt := 600) hx hb dL_isWell_593 (by decide) (fun c_32 => ?_) (fun c_32 => ?_)
                            · exact absurd c_32 (fun z => z (by rw [zw_th hz, zw_bk hz]; exact hz.2.2.2.2.2.2.2.2))
                            · replace hW : xw_D G g τ M H := xw_shr hW h0 (fun x hx => xr_n _ _ hx)
                              refine lv_iconst (v := (nI 1)) hx hb dL_isWell_596 (by decide) ?_
                              refine lv_goto (tgt := 601) hx hb dL_isWell_597 (by decide) ?_
                              exact W.zret (v := (nI 1)) hx hb hr rfl (fun t ht hWm => ⟨⟨(nI 1), M, rfl, ⟨rfl, rfl⟩, xw_end ht hW⟩, hS.F ht⟩) hS.2.2 dL_isWell_601
            · exact absurd (nI_le (Nat.le_refl _) (by decide)) c_6
          · obtain ⟨hW, hS, hl, hE471⟩ := hI
            refine lv_iload hx hb dL_isWell_471 (lv_at hl 0 rfl) ?_
            refine lv_iconst (v := (nI 4)) hx hb dL_isWell_473 (by decide) ?_
            refine lv_icmp_ge (tgt := 511) hx hb dL_isWell_474 (by decide) (fun c_33 => ?_) (fun c_33 => ?_)
            · exact absurd c_33 (nI_ge hk471 (by decide))
            · refine lv_iload hx hb dL_isWell_477 (lv_at hl 9 rfl) ?_
              refine lv_if_eq (tgt := 502) hx hb dL_isWell_479 (by decide) (fun c_34 => ?_) (fun c_34 => ?_)
              · exact absurd c_34 (by decide)
              · refine lv_aload hx hb dL_isWell_482 (lv_at hl 8 rfl) ?_
                refine lv_iload hx hb dL_isWell_484 (lv_at hl 0 rfl) ?_
                refine xg_iald (κ := 104) (n := 4) hx hb hK hW zt_xs (by decide) rfl k471 rfl hk471 (by decide) dL_isWell_486 ?_
                rw [show (xr_up M s.heap.size (zw_r (b + 1) M nn)) s.heap.size k471 = zc_pw (b + 1) (nI k471) M by rw [xr_s]; exact zw_rn hz hk471]
                refine lv_aload_n hx hb dL_isWell_487 rfl (lv_at hl 10 rfl) ?_
                refine lv_iconst (v := (nI 5)) hx hb dL_isWell_488 (by decide) ?_
                refine lv_iload hx hb dL_isWell_489 (lv_at hl 0 rfl) ?_
                refine lv_iadd hx hb dL_isWell_491 ?_
                rw [show (nI 5) + (nI k471) = (nI (5 + k471)) from nI_add 5 _]
                refine xc_i (xr_V (As := [.int (nI (5 + k471))]) (rest := [.int (zc_pw (b + 1) (nI k471) M)]) (κ := 16) ⟨hx, hb, hml, hown, hts⟩ (cz_count l O (xr_up M s.heap.size (zw_r (b + 1) M nn)) b tb2 (jj := (5 + k471)) (by omega)) (cwV 1 hts gL_isWell_X6_count rfl rfl rfl (by decide +kernel) ⟨Nat.le_of_ble_eq_true rfl, Nat.le_of_ble_eq_true rfl⟩) hK hst hnw hS hW tb2 (by decide) rfl rfl rfl hl.1 rfl (Nat.le_of_ble_eq_true rfl) dL_isWell_492 ⟨Nat.le_of_ble_eq_true rfl, Nat.le_of_ble_eq_true rfl⟩) hS (fun r_37 M_35 H locs hq_36 hW hS => ?_)
                obtain ⟨hq_36a, hq_36b⟩ := hq_36
                rw [hq_36b] at hW
                rw [hq_36a]
                rw [show (zf_co (b + 1) (xr_up M s.heap.size (zw_r (b + 1) M nn)) (5 + k471)) = (zc_pw (b + 1) (nI k471) M) from ((zg_co (hgr _) (5 + k471)).trans (zco_5 hk471))]
                refine lv_icmp_ne (tgt := 502) hx hb dL_isWell_495 (by decide) (fun c_38 => ?_) (fun c_38 => ?_)
                · exact absurd c_38 (fun z => z rfl)
                · refine lv_iconst (v := (nI 1)) hx hb dL_isWell_498 (by decide) ?_
                  refine lv_goto (tgt := 503) hx hb dL_isWell_499 (by decide) ?_
                  refine lv_istore (lv' := [(9, .int (nI 1)), (10, .int (nI k471)), (2, .int (xf_sum (fun i => M (b + 1 + 5 * i + 4) 2) 6)), (6, .int (xf_sum (fun i => M (b + 1 + 5 * i + 4) 3) 6)), (5, .int (xf_sum (fun i => M (b + 1 + 5 * i + 4) 4) 6)), (1, .int (xf_sum (fun i => zm_h (M (b + 1 + 2 * i + 34) 5)) nn)), (3, .int (xf_sum (fun i => M (b + 1 + 2 * i + 34) 7) nn)), (4, .int (xf_sum (fun i => M (b + 1 + 2 * i + 34) 9) nn)), (7, .int (xf_sum (fun i => M (b + 1 + 2 * i + 34) 4) nn)), (8, .ref s.heap.size), (0, .ref b)]) hx hb dL_isWell_503 hl (by decide) rfl (fun ls hl => ?_)
                  refine lv_iinc (v := (nI (k471 + 1))) (lv' := [(10, .int (nI (k471 + 1))), (9, .int (nI 1)), (2, .int (xf_sum (fun i => M (b + 1 + 5 * i + 4) 2) 6)), (6, .int (xf_sum (fun i => M (b + 1 + 5 * i + 4) 3) 6)), (5, .int (xf_sum (fun i => M (b + 1 + 5 * i + 4) 4) 6)), (1, .int (xf_sum (fun i => zm_h (M (b + 1 + 2 * i + 34) 5)) nn)), (3, .int (xf_sum (fun i => M (b + 1 + 2 * i + 34) 7) nn)), (4, .int (xf_sum (fun i => M (b + 1 + 2 * i + 34) 9) nn)), (7, .int (xf_sum (fun i => M (b + 1 + 2 * i + 34) 4) nn)), (8, .ref s.heap.size), (0, .ref b)]) hx hb dL_isWell_505 hl (k := 1) rfl ((nI_1 k471)) (by decide) rfl (fun ls hl => ?_)
                  refine lv_goto (tgt := 471) hx hb dL_isWell_508 (by decide) ?_
                  exact ih471 () _ _ _ ⟨hW, hS, lv_sub hl [0, 2, 3, 4, 5, 6, 7, 8, 9, 1, 10] rfl, trivial⟩
        · exact absurd (nI_le (Nat.le_refl _) (by decide)) c_5
      · obtain ⟨hW, hS, hl, hE293⟩ := hI
        refine lv_iload hx hb dL_isWell_293 (lv_at hl 0 rfl) ?_
        refine lv_bipush (v := (nI 6)) hx hb dL_isWell_295 (by decide) ?_
        refine lv_icmp_ge (tgt := 468) hx hb dL_isWell_297 (by decide) (fun c_39 => ?_) (fun c_39 => ?_)
        · exact absurd c_39 (nI_ge hk293 (by decide))
        · refine lv_iconst (v := (nI 0)) hx hb dL_isWell_300 (by decide) ?_
          refine lv_istore (lv' := [(11, .int (nI 0)), (10, .int (nI k293)), (2, .int (xf_sum (fun i => M (b + 1 + 5 * i + 4) 2) k293)), (6, .int (xf_sum (fun i => M (b + 1 + 5 * i + 4) 3) k293)), (5, .int (xf_sum (fun i => M (b + 1 + 5 * i + 4) 4) k293)), (1, .int (xf_sum (fun i => zm_h (M (b + 1 + 2 * i + 34) 5)) nn)), (3, .int (xf_sum (fun i => M (b + 1 + 2 * i + 34) 7) nn)), (4, .int (xf_sum (fun i => M (b + 1 + 2 * i + 34) 9) nn)), (7, .int (xf_sum (fun i => M (b + 1 + 2 * i + 34) 4) nn)), (8, .ref s.heap.size), (9, .int (nI 1)), (0, .ref b)]) hx hb dL_isWell_301 hl (by decide) rfl (fun ls hl => ?_)
          refine lv_iconst (v := (nI 0)) hx hb dL_isWell_303 (by decide) ?_
          refine lv_istore (lv' := [(12, .int (nI 0)), (11, .int (nI 0)), (10, .int (nI k293)), (2, .int (xf_sum (fun i => M (b + 1 + 5 * i + 4) 2) k293)), (6, .int (xf_sum (fun i => M (b + 1 + 5 * i + 4) 3) k293)), (5, .int (xf_sum (fun i => M (b + 1 + 5 * i + 4) 4) k293)), (1, .int (xf_sum (fun i => zm_h (M (b + 1 + 2 * i + 34) 5)) nn)), (3, .int (xf_sum (fun i => M (b + 1 + 2 * i + 34) 7) nn)), (4, .int (xf_sum (fun i => M (b + 1 + 2 * i + 34) 9) nn)), (7, .int (xf_sum (fun i => M (b + 1 + 2 * i + 34) 4) nn)), (8, .ref s.heap.size), (9, .int (nI 1)), (0, .ref b)]) hx hb dL_isWell_304 hl (by decide) rfl (fun ls hl => ?_)
          refine lv_iconst (v := (nI 0)) hx hb dL_isWell_306 (by decide) ?_
          refine lv_istore (lv' := [(13, .int (nI 0)), (12, .int (nI 0)), (11, .int (nI 0)), (10, .int (nI k293)), (2, .int (xf_sum (fun i => M (b + 1 + 5 * i + 4) 2) k293)), (6, .int (xf_sum (fun i => M (b + 1 + 5 * i + 4) 3) k293)), (5, .int (xf_sum (fun i => M (b + 1 + 5 * i + 4) 4) k293)), (1, .int (xf_sum (fun i => zm_h (M (b + 1 + 2 * i + 34) 5)) nn)), (3, .int (xf_sum (fun i => M (b + 1 + 2 * i + 34) 7) nn)), (4, .int (xf_sum (fun i => M (b + 1 + 2 * i + 34) 9) nn)), (7, .int (xf_sum (fun i => M (b + 1 + 2 * i + 34) 4) nn)), (8, .ref s.heap.size), (9, .int (nI 1)), (0, .ref b)]) hx hb dL_isWell_307 hl (by decide) rfl (fun ls hl => ?_)
          refine xl_up (σ := Unit) nn (fun kk zz H locs ls => xw_D G g (zt_x τ s.heap.size) (xr_up M s.heap.size (zw_r (b + 1) M nn)) H ∧ va_S A s.heap H locs ∧ lv_has ls 14 [(13, .int (nI kk)), (11, .int (nI (zw_b (Q k293) kk))), (12, .int (nI (zw_c (Q k293) kk))), (10, .int (nI k293)), (2, .int (xf_sum (fun i => M (b + 1 + 5 * i + 4) 2) k293)), (6, .int (xf_sum (fun i => M (b + 1 + 5 * i + 4) 3) k293)), (5, .int (xf_sum (fun i => M (b + 1 + 5 * i + 4) 4) k293)), (1, .int (xf_sum (fun i => zm_h (M (b + 1 + 2 * i + 34) 5)) nn)), (3, .int (xf_sum (fun i => M (b + 1 + 2 * i + 34) 7) nn)), (4, .int (xf_sum (fun i => M (b + 1 + 2 * i + 34) 9) nn)), (7, .int (xf_sum (fun i => M (b + 1 + 2 * i + 34) 4) nn)), (8, .ref s.heap.size), (9, .int (nI 1)), (0, .ref b)] ∧ True) (fun z309 H locs ls hI => ?_) (fun k309 z309 H locs ls hk309 hI ih309 => ?_) (k0 := 0) (z0 := ()) (Nat.zero_le _) ⟨hW, hS, lv_sub hl [0, 2, 1, 3, 4, 5, 6, 7, 8, 9, 10, 11, 12, 13] rfl, trivial⟩
          · obtain ⟨hW, hS, hl, hE309⟩ := hI
            refine lv_iload hx hb dL_isWell_309 (lv_at hl 0 rfl) ?_
            refine lv_aload_n hx hb dL_isWell_311 rfl (lv_at hl 13 rfl) ?_
            refine lv_iconst (v := (nI 4)) hx hb dL_isWell_312 (by decide) ?_
            refine xc_i (xr_V (As := [.int (nI 4)]) (rest := [.int (nI nn)]) (κ := 16) ⟨hx, hb, hml, hown, hts⟩ (cz_count l O (xr_up M s.heap.size (zw_r (b + 1) M nn)) b tb2 (jj := 4) (by omega)) (cwV 1 hts gL_isWell_X6_count rfl rfl rfl (by decide +kernel) ⟨Nat.le_of_ble_eq_true rfl, Nat.le_of_ble_eq_true rfl⟩) hK hst hnw hS hW tb2 (by decide) rfl rfl rfl hl.1 rfl (Nat.le_of_ble_eq_true rfl) dL_isWell_313 ⟨Nat.le_of_ble_eq_true rfl, Nat.le_of_ble_eq_true rfl⟩) hS (fun r_42 M_40 H locs hq_41 hW hS => ?_)
            obtain ⟨hq_41a, hq_41b⟩ := hq_41
            rw [hq_41b] at hW
            rw [hq_41a]
            rw [show (zf_co (b + 1) (xr_up M s.heap.size (zw_r (b + 1) M nn)) 4) = (nI nn) from ((zg_co (hgr _) 4).trans hz.1.2.1)]
            refine lv_icmp_ge (tgt := 364) hx hb dL_isWell_316 (by decide) (fun c_43 => ?_) (fun c_43 => ?_)
            · refine lv_iload_n hx hb dL_isWell_364 rfl (lv_at hl 4 rfl) ?_
              refine lv_aload_n hx hb dL_isWell_365 rfl (lv_at hl 13 rfl) ?_
              refine lv_iload hx hb dL_isWell_366 (lv_at hl 3 rfl) ?_
              refine lv_iconst (v := (nI 2)) hx hb dL_isWell_368 (by decide) ?_
              refine xc_i (xr_V (As := [.int (nI k293), .int (nI 2)]) (rest := [.int (xf_sum (fun i => M (b + 1 + 5 * i + 4) 2) k293)]) (κ := 16) ⟨hx, hb, hml, hown, hts⟩ (cz_windowOf l O (xr_up M s.heap.size (zw_r (b + 1) M nn)) b tb2 (w := k293) (jj := 2) hk293 (by omega)) (cwV 2 hts gL_isWell_X6_windowOf rfl rfl rfl (by decide +kernel) ⟨Nat.le_of_ble_eq_true rfl, Nat.le_of_ble_eq_true rfl⟩) hK hst hnw hS hW tb2 (by decide) rfl rfl rfl hl.1 rfl (Nat.le_of_ble_eq_true rfl) dL_isWell_369 ⟨Nat.le_of_ble_eq_true rfl, Nat.le_of_ble_eq_true rfl⟩) hS (fun r_46 M_44 H locs hq_45 hW hS => ?_)
              obtain ⟨hq_45a, hq_45b⟩ := hq_45
              rw [hq_45b] at hW
              rw [hq_45a]
              rw [show (zf_wi (b + 1) (xr_up M s.heap.size (zw_r (b + 1) M nn)) k293 2) = (M (b + 1 + 5 * k293 + 4) 2) from ((zg_wi (hgr _) hk293 2).trans rfl)]
              refine lv_iadd hx hb dL_isWell_372 ?_
              refine lv_istore_n (lv' := [(2, .int ((xf_sum (fun i => M (b + 1 + 5 * i + 4) 2) k293) + (M (b + 1 + 5 * k293 + 4) 2))), (13, .int (nI nn)), (11, .int (nI (zw_b (Q k293) nn))), (12, .int (nI (zw_c (Q k293) nn))), (10, .int (nI k293)), (6, .int (xf_sum (fun i => M (b + 1 + 5 * i + 4) 3) k293)), (5, .int (xf_sum (fun i => M (b + 1 + 5 * i + 4) 4) k293)), (1, .int (xf_sum (fun i => zm_h (M (b + 1 + 2 * i + 34) 5)) nn)), (3, .int (xf_sum (fun i => M (b + 1 + 2 * i + 34) 7) nn)), (4, .int (xf_sum (fun i => M (b + 1 + 2 * i + 34) 9) nn)), (7, .int (xf_sum (fun i => M (b + 1 + 2 * i + 34) 4) nn)), (8, .ref s.heap.size), (9, .int (nI 1)), (0, .ref b)]) hx hb dL_isWell_373 rfl hl (by decide) rfl (fun ls hl => ?_)
              refine lv_iload hx hb dL_isWell_374 (lv_at hl 5 rfl) ?_
              refine lv_aload_n hx hb dL_isWell_376 rfl (lv_at hl 13 rfl) ?_
              refine lv_iload hx hb dL_isWell_377 (lv_at hl 4 rfl) ?_
              refine lv_iconst (v := (nI 5)) hx hb dL_isWell_379 (by decide) ?_
              refine xc_i (xr_V (As := [.int (nI k293), .int (nI 5)]) (rest := [.int (xf_sum (fun i => M (b + 1 + 5 * i + 4) 3) k293)]) (κ := 16) ⟨hx, hb, hml, hown, hts⟩ (cz_windowOf l O (xr_up M s.heap.size (zw_r (b + 1) M nn)) b tb2 (w := k293) (jj := 5) hk293 (by omega)) (cwV 2 hts gL_isWell_X6_windowOf rfl rfl rfl (by decide +kernel) ⟨Nat.le_of_ble_eq_true rfl, Nat.le_of_ble_eq_true rfl⟩) hK hst hnw hS hW tb2 (by decide) rfl rfl rfl hl.1 rfl (Nat.le_of_ble_eq_true rfl) dL_isWell_380 ⟨Nat.le_of_ble_eq_true rfl, Nat.le_of_ble_eq_true rfl⟩) hS (fun r_49 M_47 H locs hq_48 hW hS => ?_)
              obtain ⟨hq_48a, hq_48b⟩ := hq_48
              rw [hq_48b] at hW
              rw [hq_48a]
              rw [show (zf_wi (b + 1) (xr_up M s.heap.size (zw_r (b + 1) M nn)) k293 5) = (M (b + 1 + 5 * k293 + 4) 3) from ((zg_wi (hgr _) hk293 5).trans rfl)]
              refine lv_iadd hx hb dL_isWell_383 ?_
              refine lv_istore (lv' := [(6, .int ((xf_sum (fun i => M (b + 1 + 5 * i + 4) 3) k293) + (M (b + 1 + 5 * k293 + 4) 3))), (2, .int ((xf_sum (fun i => M (b + 1 + 5 * i + 4) 2) k293) + (M (b + 1 + 5 * k293 + 4) 2))), (13, .int (nI nn)), (11, .int (nI (zw_b (Q k293) nn))), (12, .int (nI (zw_c (Q k293) nn))), (10, .int (nI k293)), (5, .int (xf_sum (fun i => M (b + 1 + 5 * i + 4) 4) k293)), (1, .int (xf_sum (fun i => zm_h (M (b + 1 + 2 * i + 34) 5)) nn)), (3, .int (xf_sum (fun i => M (b + 1 + 2 * i + 34) 7) nn)), (4, .int (xf_sum (fun i => M (b + 1 + 2 * i + 34) 9) nn)), (7, .int (xf_sum (fun i => M (b + 1 + 2 * i + 34) 4) nn)), (8, .ref s.heap.size), (9, .int (nI 1)), (0, .ref b)]) hx hb dL_isWell_384 hl (by decide) rfl (fun ls hl => ?_)
              refine lv_iload hx hb dL_isWell_386 (lv_at hl 6 rfl) ?_
              refine lv_aload_n hx hb dL_isWell_388 rfl (lv_at hl 13 rfl) ?_
              refine lv_iload hx hb dL_isWell_389 (lv_at hl 5 rfl) ?_
              refine lv_bipush (v := (nI 6)) hx hb dL_isWell_391 (by decide) ?_
              refine xc_i (xr_V (As := [.int (nI k293), .int (nI 6)]) (rest := [.int (xf_sum (fun i => M (b + 1 + 5 * i + 4) 4) k293)]) (κ := 16) ⟨hx, hb, hml, hown, hts⟩ (cz_windowOf l O (xr_up M s.heap.size (zw_r (b + 1) M nn)) b tb2 (w := k293) (jj := 6) hk293 (by omega)) (cwV 2 hts gL_isWell_X6_windowOf rfl rfl rfl (by decide +kernel) ⟨Nat.le_of_ble_eq_true rfl, Nat.le_of_ble_eq_true rfl⟩) hK hst hnw hS hW tb2 (by decide) rfl rfl rfl hl.1 rfl (Nat.le_of_ble_eq_true rfl) dL_isWell_393 ⟨Nat.le_of_ble_eq_true rfl, Nat.le_of_ble_eq_true rfl⟩) hS (fun r_52 M_50 H locs hq_51 hW hS => ?_)
              obtain ⟨hq_51a, hq_51b⟩ := hq_51
              rw [hq_51b] at hW
              rw [hq_51a]
              rw [show (zf_wi (b + 1) (xr_up M s.heap.size (zw_r (b + 1) M nn)) k293 6) = (M (b + 1 + 5 * k293 + 4) 4) from ((zg_wi (hgr _) hk293 6).trans rfl)]
              refine lv_iadd hx hb dL_isWell_396 ?_
              refine lv_istore (lv' := [(5, .int ((xf_sum (fun i => M (b + 1 + 5 * i + 4) 4) k293) + (M (b + 1 + 5 * k293 + 4) 4))), (6, .int ((xf_sum (fun i => M (b + 1 + 5 * i + 4) 3) k293) + (M (b + 1 + 5 * k293 + 4) 3))), (2, .int ((xf_sum (fun i => M (b + 1 + 5 * i + 4) 2) k293) + (M (b + 1 + 5 * k293 + 4) 2))), (13, .int (nI nn)), (11, .int (nI (zw_b (Q k293) nn))), (12, .int (nI (zw_c (Q k293) nn))), (10, .int (nI k293)), (1, .int (xf_sum (fun i => zm_h (M (b + 1 + 2 * i + 34) 5)) nn)), (3, .int (xf_sum (fun i => M (b + 1 + 2 * i + 34) 7) nn)), (4, .int (xf_sum (fun i => M (b + 1 + 2 * i + 34) 9) nn)), (7, .int (xf_sum (fun i => M (b + 1 + 2 * i + 34) 4) nn)), (8, .ref s.heap.size), (9, .int (nI 1)), (0, .ref b)]) hx hb dL_isWell_397 hl (by decide) rfl (fun ls hl => ?_)
              refine lv_iload hx hb dL_isWell_399 (lv_at hl 12 rfl) ?_
              refine lv_if_eq (tgt := 459) hx hb dL_isWell_401 (by decide) (fun c_53 => ?_) (fun c_53 => ?_)
              · exact absurd c_53 (by decide)
              · have hmem : ∀ k, k ∈ Q k293 → k < nn := fun k hk => (((hold k293 hk293).2.2.2.2.1 k).mp hk).1
                have hlen := (hold k293 hk293).1.1
                rw [zw_bl (hold k293 hk293).2.2.1 hmem, zw_cl (hold k293 hk293).2.2.1 hmem] at hl
                obtain ⟨hv, sv, bv, c1, c2, c3, c4, c5, c6⟩ := hz.2.2.2.2.1 k293 hk293
                refine lv_iload hx hb dL_isWell_404 (lv_at hl 4 rfl) ?_
                refine lv_iconst (v := (nI 1)) hx hb dL_isWell_406 (by decide) ?_
                refine lv_iload hx hb dL_isWell_407 (lv_at hl 5 rfl) ?_
                refine lv_ishl hx hb dL_isWell_409 ?_
                rw [show (nI 1) <<< ((nI (Q k293).length) &&& 31) = (nI (2 ^ (Q k293).length)) from zw_sh (Q k293).length (by omega)]
                refine lv_iconst (v := (nI 1)) hx hb dL_isWell_410 (by decide) ?_
                refine lv_isub hx hb dL_isWell_411 ?_
                rw [show (nI (2 ^ (Q k293).length)) - (nI 1) = (nI (2 ^ (Q k293).length - 1)) from pk_sub (Nat.one_le_two_pow)]
                refine lv_icmp_ne (tgt := 459) hx hb dL_isWell_412 (by decide) (fun c_54 => ?_) (fun c_54 => ?_)
                · exact absurd c_54 (fun z => z rfl)
                · refine lv_iload hx hb dL_isWell_415 (lv_at hl 5 rfl) ?_
                  refine lv_aload_n hx hb dL_isWell_417 rfl (lv_at hl 13 rfl) ?_
                  refine lv_iload hx hb dL_isWell_418 (lv_at hl 6 rfl) ?_
                  refine lv_iconst (v := (nI 3)) hx hb dL_isWell_420 (by decide) ?_
                  refine xc_i (xr_V (As := [.int (nI k293), .int (nI 3)]) (rest := [.int (nI (Q k293).length)]) (κ := 16) ⟨hx, hb, hml, hown, hts⟩ (cz_windowOf l O (xr_up M s.heap.size (zw_r (b + 1) M nn)) b tb2 (w := k293) (jj := 3) hk293 (by omega)) (cwV 2 hts gL_isWell_X6_windowOf rfl rfl rfl (by decide +kernel) ⟨Nat.le_of_ble_eq_true rfl, Nat.le_of_ble_eq_true rfl⟩) hK hst hnw hS hW tb2 (by decide) rfl rfl rfl hl.1 rfl (Nat.le_of_ble_eq_true rfl) dL_isWell_421 ⟨Nat.le_of_ble_eq_true rfl, Nat.le_of_ble_eq_true rfl⟩) hS (fun r_57 M_55 H locs hq_56 hW hS => ?_)
                  obtain ⟨hq_56a, hq_56b⟩ := hq_56
                  rw [hq_56b] at hW
                  rw [hq_56a]
                  rw [show (zf_wi (b + 1) (xr_up M s.heap.size (zw_r (b + 1) M nn)) k293 3) = (nI (Q k293).length) from ((zg_wi (hgr _) hk293 3).trans (hold k293 hk293).1.2.1)]
                  refine lv_icmp_ne (tgt := 459) hx hb dL_isWell_424 (by decide) (fun c_58 => ?_) (fun c_58 => ?_)
                  · exact absurd c_58 (fun z => z rfl)
                  · refine lv_aload_n hx hb dL_isWell_427 rfl (lv_at hl 13 rfl) ?_
                    refine lv_iload hx hb dL_isWell_428 (lv_at hl 6 rfl) ?_
                    refine lv_iconst (v := (nI 2)) hx hb dL_isWell_430 (by decide) ?_
                    refine xc_i (xr_V (As := [.int (nI k293), .int (nI 2)]) (rest := []) (κ := 16) ⟨hx, hb, hml, hown, hts⟩ (cz_windowOf l O (xr_up M s.heap.size (zw_r (b + 1) M nn)) b tb2 (w := k293) (jj := 2) hk293 (by omega)) (cwV 2 hts gL_isWell_X6_windowOf rfl rfl rfl (by decide +kernel) ⟨Nat.le_of_ble_eq_true rfl, Nat.le_of_ble_eq_true rfl⟩) hK hst hnw hS hW tb2 (by decide) rfl rfl rfl hl.1 rfl (Nat.le_of_ble_eq_true rfl) dL_isWell_431 ⟨Nat.le_of_ble_eq_true rfl, Nat.le_of_ble_eq_true rfl⟩) hS (fun r_61 M_59 H locs hq_60 hW hS => ?_)
                    obtain ⟨hq_60a, hq_60b⟩ := hq_60
                    rw [hq_60b] at hW
                    rw [hq_60a]
                    rw [show (zf_wi (b + 1) (xr_up M s.heap.size (zw_r (b + 1) M nn)) k293 2) = (nI hv) from ((zg_wi (hgr _) hk293 2).trans c4)]
                    refine lv_if_lt (tgt := 459) hx hb dL_isWell_434 (by decide) (fun c_62 => ?_) (fun c_62 => ?_)
                    · exact absurd c_62 (nI_pos (by omega))
                    · refine lv_aload_n hx hb dL_isWell_437 rfl (lv_at hl 13 rfl) ?_
                      refine lv_iload hx hb dL_isWell_438 (lv_at hl 6 rfl) ?_
                      refine lv_bipush (v := (nI 6)) hx hb dL_isWell_440 (by decide) ?_
                      refine xc_i (xr_V (As := [.int (nI k293), .int (nI 6)]) (rest := []) (κ := 16) ⟨hx, hb, hml, hown, hts⟩ (cz_windowOf l O (xr_up M s.heap.size (zw_r (b + 1) M nn)) b tb2 (w := k293) (jj := 6) hk293 (by omega)) (cwV 2 hts gL_isWell_X6_windowOf rfl rfl rfl (by decide +kernel) ⟨Nat.le_of_ble_eq_true rfl, Nat.le_of_ble_eq_true rfl⟩) hK hst hnw hS hW tb2 (by decide) rfl rfl rfl hl.1 rfl (Nat.le_of_ble_eq_true rfl) dL_isWell_442 ⟨Nat.le_of_ble_eq_true rfl, Nat.le_of_ble_eq_true rfl⟩) hS (fun r_65 M_63 H locs hq_64 hW hS => ?_)
                      obtain ⟨hq_64a, hq_64b⟩ := hq_64
                      rw [hq_64b] at hW
                      rw [hq_64a]
                      rw [show (zf_wi (b + 1) (xr_up M s.heap.size (zw_r (b + 1) M nn)) k293 6) = (nI bv) from ((zg_wi (hgr _) hk293 6).trans c6)]
                      refine lv_aload_n hx hb dL_isWell_445 rfl (lv_at hl 13 rfl) ?_
                      refine lv_iload hx hb dL_isWell_446 (lv_at hl 6 rfl) ?_
                      refine lv_iconst (v := (nI 5)) hx hb dL_isWell_448 (by decide) ?_
                      refine xc_i (xr_V (As := [.int (nI k293), .int (nI 5)]) (rest := [.int (nI bv)]) (κ := 16) ⟨hx, hb, hml, hown, hts⟩ (cz_windowOf l O (xr_up M s.heap.size (zw_r (b + 1) M nn)) b tb2 (w := k293) (jj := 5) hk293 (by omega)) (cwV 2 hts gL_isWell_X6_windowOf rfl rfl rfl (by decide +kernel) ⟨Nat.le_of_ble_eq_true rfl, Nat.le_of_ble_eq_true rfl⟩) hK hst hnw hS hW tb2 (by decide) rfl rfl rfl hl.1 rfl (Nat.le_of_ble_eq_true rfl) dL_isWell_449 ⟨Nat.le_of_ble_eq_true rfl, Nat.le_of_ble_eq_true rfl⟩) hS (fun r_68 M_66 H locs hq_67 hW hS => ?_)
                      obtain ⟨hq_67a, hq_67b⟩ := hq_67
                      rw [hq_67b] at hW
                      rw [hq_67a]
                      rw [show (zf_wi (b + 1) (xr_up M s.heap.size (zw_r (b + 1) M nn)) k293 5) = (nI sv) from ((zg_wi (hgr _) hk293 5).trans c5)]
                      refine lv_icmp_gt (tgt := 459) hx hb dL_isWell_452 (by decide) (fun c_69 => ?_) (fun c_69 => ?_)
                      · exact absurd c_69 (nI_nlt c3 (by omega))
                      · refine lv_iconst (v := (nI 1)) hx hb dL_isWell_455 (by decide) ?_
                        refine lv_goto (tgt := 460) hx hb dL_isWell_456 (by decide) ?_
                        refine lv_istore (lv' := [(9, .int (nI 1)), (5, .int ((xf_sum (fun i => M (b + 1 + 5 * i + 4) 4) k293) + (M (b + 1 + 5 * k293 + 4) 4))), (6, .int ((xf_sum (fun i => M (b + 1 + 5 * i + 4) 3) k293) + (M (b + 1 + 5 * k293 + 4) 3))), (2, .int ((xf_sum (fun i => M (b + 1 + 5 * i + 4) 2) k293) + (M (b + 1 + 5 * k293 + 4) 2))), (13, .int (nI nn)), (11, .int (nI (2 ^ (Q k293).length - 1))), (12, .int (nI (Q k293).length)), (10, .int (nI k293)), (1, .int (xf_sum (fun i => zm_h (M (b + 1 + 2 * i + 34) 5)) nn)), (3, .int (xf_sum (fun i => M (b + 1 + 2 * i + 34) 7) nn)), (4, .int (xf_sum (fun i => M (b + 1 + 2 * i + 34) 9) nn)), (7, .int (xf_sum (fun i => M (b + 1 + 2 * i + 34) 4) nn)), (8, .ref s.heap.size), (0, .ref b)]) hx hb dL_isWell_460 hl (by decide) rfl (fun ls hl => ?_)
                        refine lv_iinc (v := (nI (k293 + 1))) (lv' := [(10, .int (nI (k293 + 1))), (9, .int (nI 1)), (5, .int ((xf_sum (fun i => M (b + 1 + 5 * i + 4) 4) k293) + (M (b + 1 + 5 * k293 + 4) 4))), (6, .int ((xf_sum (fun i => M (b + 1 + 5 * i + 4) 3) k293) + (M (b + 1 + 5 * k293 + 4) 3))), (2, .int ((xf_sum (fun i => M (b + 1 + 5 * i + 4) 2) k293) + (M (b + 1 + 5 * k293 + 4) 2))), (13, .int (nI nn)), (11, .int (nI (2 ^ (Q k293).length - 1))), (12, .int (nI (Q k293).length)), (1, .int (xf_sum (fun i => zm_h (M (b + 1 + 2 * i + 34) 5)) nn)), (3, .int (xf_sum (fun i => M (b + 1 + 2 * i + 34) 7) nn)), (4, .int (xf_sum (fun i => M (b + 1 + 2 * i + 34) 9) nn)), (7, .int (xf_sum (fun i => M (b + 1 + 2 * i + 34) 4) nn)), (8, .ref s.heap.size), (0, .ref b)]) hx hb dL_isWell_462 hl (k := 7) rfl ((nI_1 k293)) (by decide) rfl (fun ls hl => ?_)
                        refine lv_goto (tgt := 293) hx hb dL_isWell_465 (by decide) ?_
                        exact ih293 () _ _ _ ⟨hW, hS, lv_sub hl [0, 4, 3, 2, 8, 9, 10, 11, 12, 1, 13] rfl, trivial⟩
            · exact absurd (nI_le (Nat.le_refl _) (by omega)) c_43
          · obtain ⟨hW, hS, hl, hE309⟩ := hI
            refine lv_iload hx hb dL_isWell_309 (lv_at hl 0 rfl) ?_
            refine lv_aload_n hx hb dL_isWell_311 rfl (lv_at hl 13 rfl) ?_
            refine lv_iconst (v := (nI 4)) hx hb dL_isWell_312 (by decide) ?_
            refine xc_i (xr_V (As := [.int (nI 4)]) (rest := [.int (nI k309)]) (κ := 16) ⟨hx, hb, hml, hown, hts⟩ (cz_count l O (xr_up M s.heap.size (zw_r (b + 1) M nn)) b tb2 (jj := 4) (by omega)) (cwV 1 hts gL_isWell_X6_count rfl rfl rfl (by decide +kernel) ⟨Nat.le_of_ble_eq_true rfl, Nat.le_of_ble_eq_true rfl⟩) hK hst hnw hS hW tb2 (by decide) rfl rfl rfl hl.1 rfl (Nat.le_of_ble_eq_true rfl) dL_isWell_313 ⟨Nat.le_of_ble_eq_true rfl, Nat.le_of_ble_eq_true rfl⟩) hS (fun r_72 M_70 H locs hq_71 hW hS => ?_)
            obtain ⟨hq_71a, hq_71b⟩ := hq_71
            rw [hq_71b] at hW
            rw [hq_71a]
            rw [show (zf_co (b + 1) (xr_up M s.heap.size (zw_r (b + 1) M nn)) 4) = (nI nn) from ((zg_co (hgr _) 4).trans hz.1.2.1)]
            refine lv_icmp_ge (tgt := 364) hx hb dL_isWell_316 (by decide) (fun c_73 => ?_) (fun c_73 => ?_)
            · exact absurd c_73 (nI_ge hk309 (by omega))
            · by_cases hm : k309 ∈ (Q k293)
              · obtain ⟨-, hw0q, hwv⟩ := ((hold k293 hk293).2.2.2.2.1 k309).mp hm
                obtain ⟨w0, j0, hw0, hza, hQj, hpl, hj24⟩ := zw_pl hz hold hk309 hw0q
                obtain ⟨w1, hw1, hza1, hwv1⟩ := zs_w1 hz hk309 (Or.inl hw0q)
                have ew : w0 = k293 := zI_inj (by omega) (by omega) (hza.symm.trans (hza1.trans (by rw [← hwv1, hwv])))
                rw [ew] at hza hQj
                have hix := zw_idx (hold k293 hk293).2.2.1 hQj
                refine lv_aload_n hx hb dL_isWell_319 rfl (lv_at hl 13 rfl) ?_
                refine lv_iload hx hb dL_isWell_320 (lv_at hl 0 rfl) ?_
                refine lv_iconst (v := (nI 1)) hx hb dL_isWell_322 (by decide) ?_
                refine xc_i (xr_V (As := [.int (nI k309), .int (nI 1)]) (rest := []) (κ := 16) ⟨hx, hb, hml, hown, hts⟩ (cz_person l O (xr_up M s.heap.size (zw_r (b + 1) M nn)) b tb2 (hzr _) (k := k309) (jj := 1) hk309 (by omega)) (cwV 2 hts gL_isWell_X6_person rfl rfl rfl (by decide +kernel) ⟨Nat.le_of_ble_eq_true rfl, Nat.le_of_ble_eq_true rfl⟩) hK hst hnw hS hW tb2 (by decide) rfl rfl rfl hl.1 rfl (Nat.le_of_ble_eq_true rfl) dL_isWell_323 ⟨Nat.le_of_ble_eq_true rfl, Nat.le_of_ble_eq_true rfl⟩) hS (fun r_76 M_74 H locs hq_75 hW hS => ?_)
                obtain ⟨hq_75a, hq_75b⟩ := hq_75
                rw [hq_75b] at hW
                rw [hq_75a]
                rw [show (zf_pe (b + 1) (xr_up M s.heap.size (zw_r (b + 1) M nn)) k309 1) = (nI k293) from ((zg_pe (hgr _) (show k309 < 24 by omega) 1).trans hza)]
                refine lv_iload hx hb dL_isWell_326 (lv_at hl 3 rfl) ?_
                refine lv_icmp_ne (tgt := 358) hx hb dL_isWell_328 (by decide) (fun c_77 => ?_) (fun c_77 => ?_)
                · exact absurd rfl c_77
                · refine lv_aload_n hx hb dL_isWell_331 rfl (lv_at hl 13 rfl) ?_
                  refine lv_iload hx hb dL_isWell_332 (lv_at hl 0 rfl) ?_
                  refine lv_iconst (v := (nI 0)) hx hb dL_isWell_334 (by decide) ?_
                  refine xc_i (xr_V (As := [.int (nI k309), .int (nI 0)]) (rest := []) (κ := 16) ⟨hx, hb, hml, hown, hts⟩ (cz_person l O (xr_up M s.heap.size (zw_r (b + 1) M nn)) b tb2 (hzr _) (k := k309) (jj := 0) hk309 (by omega)) (cwV 2 hts gL_isWell_X6_person rfl rfl rfl (by decide +kernel) ⟨Nat.le_of_ble_eq_true rfl, Nat.le_of_ble_eq_true rfl⟩) hK hst hnw hS hW tb2 (by decide) rfl rfl rfl hl.1 rfl (Nat.le_of_ble_eq_true rfl) dL_isWell_335 ⟨Nat.le_of_ble_eq_true rfl, Nat.le_of_ble_eq_true rfl⟩) hS (fun r_80 M_78 H locs hq_79 hW hS => ?_)
                  obtain ⟨hq_79a, hq_79b⟩ := hq_79
                  rw [hq_79b] at hW
                  rw [hq_79a]
                  rw [show (zf_pe (b + 1) (xr_up M s.heap.size (zw_r (b + 1) M nn)) k309 0) = (nI 0) from ((zg_pe (hgr _) (show k309 < 24 by omega) 0).trans hw0q)]
                  refine lv_if_ne (tgt := 358) hx hb dL_isWell_338 (by decide) (fun c_81 => ?_) (fun c_81 => ?_)
                  · exact absurd rfl c_81
                  · refine lv_iload hx hb dL_isWell_341 (lv_at hl 1 rfl) ?_
                    refine lv_iconst (v := (nI 1)) hx hb dL_isWell_343 (by decide) ?_
                    refine lv_aload_n hx hb dL_isWell_344 rfl (lv_at hl 13 rfl) ?_
                    refine lv_iload hx hb dL_isWell_345 (lv_at hl 0 rfl) ?_
                    refine lv_iconst (v := (nI 2)) hx hb dL_isWell_347 (by decide) ?_
                    refine xc_i (xr_V (As := [.int (nI k309), .int (nI 2)]) (rest := [.int (nI 1), .int (nI (zw_b (Q k293) k309))]) (κ := 16) ⟨hx, hb, hml, hown, hts⟩ (cz_person l O (xr_up M s.heap.size (zw_r (b + 1) M nn)) b tb2 (hzr _) (k := k309) (jj := 2) hk309 (by omega)) (cwV 2 hts gL_isWell_X6_person rfl rfl rfl (by decide +kernel) ⟨Nat.le_of_ble_eq_true rfl, Nat.le_of_ble_eq_true rfl⟩) hK hst hnw hS hW tb2 (by decide) rfl rfl rfl hl.1 rfl (Nat.le_of_ble_eq_true rfl) dL_isWell_348 ⟨Nat.le_of_ble_eq_true rfl, Nat.le_of_ble_eq_true rfl⟩) hS (fun r_84 M_82 H locs hq_83 hW hS => ?_)
                    obtain ⟨hq_83a, hq_83b⟩ := hq_83
                    rw [hq_83b] at hW
                    rw [hq_83a]
                    rw [show (zf_pe (b + 1) (xr_up M s.heap.size (zw_r (b + 1) M nn)) k309 2) = (nI j0) from ((zg_pe (hgr _) (show k309 < 24 by omega) 2).trans hpl)]
                    refine lv_ishl hx hb dL_isWell_351 ?_
                    rw [show (nI 1) <<< ((nI j0) &&& 31) = (nI (2 ^ j0)) from zw_sh j0 (by omega)]
                    refine lv_ior hx hb dL_isWell_352 ?_
                    rw [show (nI (zw_b (Q k293) k309)) ||| (nI (2 ^ j0)) = (nI (zw_b (Q k293) (k309 + 1))) from (by rw [zw_or]; show _ = nI (if _ then _ else _); rw [if_pos hm, hix])]
                    refine lv_istore (lv' := [(11, .int (nI (zw_b (Q k293) (k309 + 1)))), (13, .int (nI k309)), (12, .int (nI (zw_c (Q k293) k309))), (10, .int (nI k293)), (2, .int (xf_sum (fun i => M (b + 1 + 5 * i + 4) 2) k293)), (6, .int (xf_sum (fun i => M (b + 1 + 5 * i + 4) 3) k293)), (5, .int (xf_sum (fun i => M (b + 1 + 5 * i + 4) 4) k293)), (1, .int (xf_sum (fun i => zm_h (M (b + 1 + 2 * i + 34) 5)) nn)), (3, .int (xf_sum (fun i => M (b + 1 + 2 * i + 34) 7) nn)), (4, .int (xf_sum (fun i => M (b + 1 + 2 * i + 34) 9) nn)), (7, .int (xf_sum (fun i => M (b + 1 + 2 * i + 34) 4) nn)), (8, .ref s.heap.size), (9, .int (nI 1)), (0, .ref b)]) hx hb dL_isWell_353 hl (by decide) rfl (fun ls hl => ?_)
                    refine lv_iinc (v := (nI (zw_c (Q k293) (k309 + 1)))) (lv' := [(12, .int (nI (zw_c (Q k293) (k309 + 1)))), (11, .int (nI (zw_b (Q k293) (k309 + 1)))), (13, .int (nI k309)), (10, .int (nI k293)), (2, .int (xf_sum (fun i => M (b + 1 + 5 * i + 4) 2) k293)), (6, .int (xf_sum (fun i => M (b + 1 + 5 * i + 4) 3) k293)), (5, .int (xf_sum (fun i => M (b + 1 + 5 * i + 4) 4) k293)), (1, .int (xf_sum (fun i => zm_h (M (b + 1 + 2 * i + 34) 5)) nn)), (3, .int (xf_sum (fun i => M (b + 1 + 2 * i + 34) 7) nn)), (4, .int (xf_sum (fun i => M (b + 1 + 2 * i + 34) 9) nn)), (7, .int (xf_sum (fun i => M (b + 1 + 2 * i + 34) 4) nn)), (8, .ref s.heap.size), (9, .int (nI 1)), (0, .ref b)]) hx hb dL_isWell_355 hl (k := 2) rfl ((by show _ = nI (if _ then _ else _); rw [if_pos hm]; exact nI_1 _)) (by decide) rfl (fun ls hl => ?_)
                    refine lv_iinc (v := (nI (k309 + 1))) (lv' := [(13, .int (nI (k309 + 1))), (12, .int (nI (zw_c (Q k293) (k309 + 1)))), (11, .int (nI (zw_b (Q k293) (k309 + 1)))), (10, .int (nI k293)), (2, .int (xf_sum (fun i => M (b + 1 + 5 * i + 4) 2) k293)), (6, .int (xf_sum (fun i => M (b + 1 + 5 * i + 4) 3) k293)), (5, .int (xf_sum (fun i => M (b + 1 + 5 * i + 4) 4) k293)), (1, .int (xf_sum (fun i => zm_h (M (b + 1 + 2 * i + 34) 5)) nn)), (3, .int (xf_sum (fun i => M (b + 1 + 2 * i + 34) 7) nn)), (4, .int (xf_sum (fun i => M (b + 1 + 2 * i + 34) 9) nn)), (7, .int (xf_sum (fun i => M (b + 1 + 2 * i + 34) 4) nn)), (8, .ref s.heap.size), (9, .int (nI 1)), (0, .ref b)]) hx hb dL_isWell_358 hl (k := 2) rfl ((nI_1 k309)) (by decide) rfl (fun ls hl => ?_)
                    refine lv_goto (tgt := 309) hx hb dL_isWell_361 (by decide) ?_
                    exact ih309 () _ _ _ ⟨hW, hS, lv_sub hl [0, 2, 1, 3, 4, 5, 6, 7, 8, 9, 10, 11, 12, 13] rfl, trivial⟩
              · refine lv_aload_n hx hb dL_isWell_319 rfl (lv_at hl 13 rfl) ?_
                refine lv_iload hx hb dL_isWell_320 (lv_at hl 0 rfl) ?_
                refine lv_iconst (v := (nI 1)) hx hb dL_isWell_322 (by decide) ?_
                refine xc_i (xr_V (As := [.int (nI k309), .int (nI 1)]) (rest := []) (κ := 16) ⟨hx, hb, hml, hown, hts⟩ (cz_person l O (xr_up M s.heap.size (zw_r (b + 1) M nn)) b tb2 (hzr _) (k := k309) (jj := 1) hk309 (by omega)) (cwV 2 hts gL_isWell_X6_person rfl rfl rfl (by decide +kernel) ⟨Nat.le_of_ble_eq_true rfl, Nat.le_of_ble_eq_true rfl⟩) hK hst hnw hS hW tb2 (by decide) rfl rfl rfl hl.1 rfl (Nat.le_of_ble_eq_true rfl) dL_isWell_323 ⟨Nat.le_of_ble_eq_true rfl, Nat.le_of_ble_eq_true rfl⟩) hS (fun r_87 M_85 H locs hq_86 hW hS => ?_)
                obtain ⟨hq_86a, hq_86b⟩ := hq_86
                rw [hq_86b] at hW
                rw [hq_86a]
                rw [show (zf_pe (b + 1) (xr_up M s.heap.size (zw_r (b + 1) M nn)) k309 1) = (zs_at M (b + 1 + 2 * k309 + 34)) from ((zg_pe (hgr _) (show k309 < 24 by omega) 1).trans rfl)]
                refine lv_iload hx hb dL_isWell_326 (lv_at hl 3 rfl) ?_
                refine lv_icmp_ne (tgt := 358) hx hb dL_isWell_328 (by decide) (fun c_88 => ?_) (fun c_88 => ?_)
                · rw [show zw_b (Q k293) k309 = zw_b (Q k293) (k309 + 1) from (if_neg hm).symm, show zw_c (Q k293) k309 = zw_c (Q k293) (k309 + 1) from (if_neg hm).symm] at hl
                  refine lv_iinc (v := (nI (k309 + 1))) (lv' := [(13, .int (nI (k309 + 1))), (11, .int (nI (zw_b (Q k293) (k309 + 1)))), (12, .int (nI (zw_c (Q k293) (k309 + 1)))), (10, .int (nI k293)), (2, .int (xf_sum (fun i => M (b + 1 + 5 * i + 4) 2) k293)), (6, .int (xf_sum (fun i => M (b + 1 + 5 * i + 4) 3) k293)), (5, .int (xf_sum (fun i => M (b + 1 + 5 * i + 4) 4) k293)), (1, .int (xf_sum (fun i => zm_h (M (b + 1 + 2 * i + 34) 5)) nn)), (3, .int (xf_sum (fun i => M (b + 1 + 2 * i + 34) 7) nn)), (4, .int (xf_sum (fun i => M (b + 1 + 2 * i + 34) 9) nn)), (7, .int (xf_sum (fun i => M (b + 1 + 2 * i + 34) 4) nn)), (8, .ref s.heap.size), (9, .int (nI 1)), (0, .ref b)]) hx hb dL_isWell_358 hl (k := 0) rfl ((nI_1 k309)) (by decide) rfl (fun ls hl => ?_)
                  refine lv_goto (tgt := 309) hx hb dL_isWell_361 (by decide) ?_
                  exact ih309 () _ _ _ ⟨hW, hS, lv_sub hl [0, 1, 2, 3, 4, 5, 6, 7, 8, 9, 10, 11, 12, 13] rfl, trivial⟩
                · refine lv_aload_n hx hb dL_isWell_331 rfl (lv_at hl 13 rfl) ?_
                  refine lv_iload hx hb dL_isWell_332 (lv_at hl 0 rfl) ?_
                  refine lv_iconst (v := (nI 0)) hx hb dL_isWell_334 (by decide) ?_
                  refine xc_i (xr_V (As := [.int (nI k309), .int (nI 0)]) (rest := []) (κ := 16) ⟨hx, hb, hml, hown, hts⟩ (cz_person l O (xr_up M s.heap.size (zw_r (b + 1) M nn)) b tb2 (hzr _) (k := k309) (jj := 0) hk309 (by omega)) (cwV 2 hts gL_isWell_X6_person rfl rfl rfl (by decide +kernel) ⟨Nat.le_of_ble_eq_true rfl, Nat.le_of_ble_eq_true rfl⟩) hK hst hnw hS hW tb2 (by decide) rfl rfl rfl hl.1 rfl (Nat.le_of_ble_eq_true rfl) dL_isWell_335 ⟨Nat.le_of_ble_eq_true rfl, Nat.le_of_ble_eq_true rfl⟩) hS (fun r_91 M_89 H locs hq_90 hW hS => ?_)
                  obtain ⟨hq_90a, hq_90b⟩ := hq_90
                  rw [hq_90b] at hW
                  rw [hq_90a]
                  rw [show (zf_pe (b + 1) (xr_up M s.heap.size (zw_r (b + 1) M nn)) k309 0) = (M (b + 1 + 2 * k309 + 34) 3) from ((zg_pe (hgr _) (show k309 < 24 by omega) 0).trans rfl)]
                  refine lv_if_ne (tgt := 358) hx hb dL_isWell_338 (by decide) (fun c_92 => ?_) (fun c_92 => ?_)
                  · rw [show zw_b (Q k293) k309 = zw_b (Q k293) (k309 + 1) from (if_neg hm).symm, show zw_c (Q k293) k309 = zw_c (Q k293) (k309 + 1) from (if_neg hm).symm] at hl
                    refine lv_iinc (v := (nI (k309 + 1))) (lv' := [(13, .int (nI (k309 + 1))), (11, .int (nI (zw_b (Q k293) (k309 + 1)))), (12, .int (nI (zw_c (Q k293) (k309 + 1)))), (10, .int (nI k293)), (2, .int (xf_sum (fun i => M (b + 1 + 5 * i + 4) 2) k293)), (6, .int (xf_sum (fun i => M (b + 1 + 5 * i + 4) 3) k293)), (5, .int (xf_sum (fun i => M (b + 1 + 5 * i + 4) 4) k293)), (1, .int (xf_sum (fun i => zm_h (M (b + 1 + 2 * i + 34) 5)) nn)), (3, .int (xf_sum (fun i => M (b + 1 + 2 * i + 34) 7) nn)), (4, .int (xf_sum (fun i => M (b + 1 + 2 * i + 34) 9) nn)), (7, .int (xf_sum (fun i => M (b + 1 + 2 * i + 34) 4) nn)), (8, .ref s.heap.size), (9, .int (nI 1)), (0, .ref b)]) hx hb dL_isWell_358 hl (k := 0) rfl ((nI_1 k309)) (by decide) rfl (fun ls hl => ?_)
                    refine lv_goto (tgt := 309) hx hb dL_isWell_361 (by decide) ?_
                    exact ih309 () _ _ _ ⟨hW, hS, lv_sub hl [0, 1, 2, 3, 4, 5, 6, 7, 8, 9, 10, 11, 12, 13] rfl, trivial⟩
                  · obtain ⟨w1, hw1, hza1, hwv1⟩ := zs_w1 hz hk309 (Or.inl c_92)
                    exact absurd (((hold k293 hk293).2.2.2.2.1 k309).mpr ⟨hk309, c_92, hwv1.trans (zI_inj (by omega) (by omega) (hza1.symm.trans c_88))⟩) hm
    · exact absurd (nI_le (Nat.le_refl _) (by omega)) c_4
  · obtain ⟨hW, hS, hl, hE29⟩ := hI
    refine lv_iload hx hb dL_isWell_29 (lv_at hl 0 rfl) ?_
    refine lv_aload_n hx hb dL_isWell_31 rfl (lv_at hl 10 rfl) ?_
    refine lv_iconst (v := (nI 4)) hx hb dL_isWell_32 (by decide) ?_
    refine xc_i (xr_V (As := [.int (nI 4)]) (rest := [.int (nI k29)]) (κ := 16) ⟨hx, hb, hml, hown, hts⟩ (cz_count l O (xr_up M s.heap.size (zw_r (b + 1) M k29)) b tb2 (jj := 4) (by omega)) (cwV 1 hts gL_isWell_X6_count rfl rfl rfl (by decide +kernel) ⟨Nat.le_of_ble_eq_true rfl, Nat.le_of_ble_eq_true rfl⟩) hK hst hnw hS hW tb2 (by decide) rfl rfl rfl hl.1 rfl (Nat.le_of_ble_eq_true rfl) dL_isWell_33 ⟨Nat.le_of_ble_eq_true rfl, Nat.le_of_ble_eq_true rfl⟩) hS (fun r_95 M_93 H locs hq_94 hW hS => ?_)
    obtain ⟨hq_94a, hq_94b⟩ := hq_94
    rw [hq_94b] at hW
    rw [hq_94a]
    rw [show (zf_co (b + 1) (xr_up M s.heap.size (zw_r (b + 1) M k29)) 4) = (nI nn) from ((zg_co (hgr _) 4).trans hz.1.2.1)]
    refine lv_icmp_ge (tgt := 290) hx hb dL_isWell_36 (by decide) (fun c_96 => ?_) (fun c_96 => ?_)
    · exact absurd c_96 (nI_ge hk29 (by omega))
    · obtain ⟨m1, t1, p1, p2, p3, p4, p5, p6⟩ := hz.2.2.2.1 k29 hk29
      rcases p6 with ⟨pw | pw, pt, p10, ph | ⟨ph, pt0⟩⟩ | ⟨pw, pt, ph, y, py, p10⟩ | ⟨pw, pt, ph, y, py, p10⟩
      · obtain ⟨w0, j0, hw0, hza, hQj, hpl, hj24⟩ := zw_pl hz hold hk29 pw
        refine lv_aload_n hx hb dL_isWell_39 rfl (lv_at hl 10 rfl) ?_
        refine lv_iload hx hb dL_isWell_40 (lv_at hl 0 rfl) ?_
        refine lv_iconst (v := (nI 0)) hx hb dL_isWell_42 (by decide) ?_
        refine xc_i (xr_V (As := [.int (nI k29), .int (nI 0)]) (rest := []) (κ := 16) ⟨hx, hb, hml, hown, hts⟩ (cz_person l O (xr_up M s.heap.size (zw_r (b + 1) M k29)) b tb2 (hzr _) (k := k29) (jj := 0) hk29 (by omega)) (cwV 2 hts gL_isWell_X6_person rfl rfl rfl (by decide +kernel) ⟨Nat.le_of_ble_eq_true rfl, Nat.le_of_ble_eq_true rfl⟩) hK hst hnw hS hW tb2 (by decide) rfl rfl rfl hl.1 rfl (Nat.le_of_ble_eq_true rfl) dL_isWell_43 ⟨Nat.le_of_ble_eq_true rfl, Nat.le_of_ble_eq_true rfl⟩) hS (fun r_99 M_97 H locs hq_98 hW hS => ?_)
        obtain ⟨hq_98a, hq_98b⟩ := hq_98
        rw [hq_98b] at hW
        rw [hq_98a]
        rw [show (zf_pe (b + 1) (xr_up M s.heap.size (zw_r (b + 1) M k29)) k29 0) = (nI 0) from ((zg_pe (hgr _) (show k29 < 24 by omega) 0).trans pw)]
        refine lv_istore (lv' := [(11, .int (nI 0)), (10, .int (nI k29)), (2, .int (nI 0)), (5, .int (nI 0)), (6, .int (nI 0)), (1, .int (xf_sum (fun i => zm_h (M (b + 1 + 2 * i + 34) 5)) k29)), (3, .int (xf_sum (fun i => M (b + 1 + 2 * i + 34) 7) k29)), (4, .int (xf_sum (fun i => M (b + 1 + 2 * i + 34) 9) k29)), (7, .int (xf_sum (fun i => M (b + 1 + 2 * i + 34) 4) k29)), (8, .ref s.heap.size), (9, .int (nI 1)), (0, .ref b)]) hx hb dL_isWell_46 hl (by decide) rfl (fun ls hl => ?_)
        refine lv_aload hx hb dL_isWell_48 (lv_at hl 9 rfl) ?_
        refine lv_iload hx hb dL_isWell_50 (lv_at hl 0 rfl) ?_
        refine lv_dup2_11 hx hb dL_isWell_52 rfl rfl ?_
        refine xg_iald (κ := 104) (n := 4) hx hb hK hW zt_xs (by decide) rfl 0 rfl (by decide) (by decide) dL_isWell_53 ?_
        refine lv_iconst (v := (nI 1)) hx hb dL_isWell_54 (by decide) ?_
        refine lv_iadd hx hb dL_isWell_55 ?_
        refine xg_iast (κ := 104) (n := 4) hx hb hK O hW hS zt_xs (by decide) (fun _ => rfl) (fun _ => trivial) 0 rfl (by decide) (by decide) dL_isWell_56 (fun H locs hW hS => ?_)
        obtain ⟨M_100, eM_100⟩ : ∃ M9, M9 = xu_p (xr_up M s.heap.size (zw_r (b + 1) M k29)) s.heap.size 0 (((xr_up M s.heap.size (zw_r (b + 1) M k29)) s.heap.size 0) + (nI 1)) := ⟨_, rfl⟩
        rw [← eM_100] at hW
        have eZ : M_100 = (xr_up M s.heap.size (zw_r (b + 1) M (k29 + 1))) := by rw [eM_100]; unfold xu_p; rw [xr_s, zx_2]; exact congrArg (xr_up M s.heap.size) (zw_r1 pw (by omega))
        rw [eZ] at hW
        refine lv_iload_n hx hb dL_isWell_57 rfl (lv_at hl 5 rfl) ?_
        refine lv_aload_n hx hb dL_isWell_58 rfl (lv_at hl 11 rfl) ?_
        refine lv_iload hx hb dL_isWell_59 (lv_at hl 1 rfl) ?_
        refine lv_iconst (v := (nI 3)) hx hb dL_isWell_61 (by decide) ?_
        refine xc_i (xr_V (As := [.int (nI k29), .int (nI 3)]) (rest := [.int (xf_sum (fun i => zm_h (M (b + 1 + 2 * i + 34) 5)) k29)]) (κ := 16) ⟨hx, hb, hml, hown, hts⟩ (cz_person l O (xr_up M s.heap.size (zw_r (b + 1) M (k29 + 1))) b tb2 (hzr _) (k := k29) (jj := 3) hk29 (by omega)) (cwV 2 hts gL_isWell_X6_person rfl rfl rfl (by decide +kernel) ⟨Nat.le_of_ble_eq_true rfl, Nat.le_of_ble_eq_true rfl⟩) hK hst hnw hS hW tb2 (by decide) rfl rfl rfl hl.1 rfl (Nat.le_of_ble_eq_true rfl) dL_isWell_62 ⟨Nat.le_of_ble_eq_true rfl, Nat.le_of_ble_eq_true rfl⟩) hS (fun r_103 M_101 H locs hq_102 hW hS => ?_)
        obtain ⟨hq_102a, hq_102b⟩ := hq_102
        rw [hq_102b] at hW
        rw [hq_102a]
        rw [show (zf_pe (b + 1) (xr_up M s.heap.size (zw_r (b + 1) M (k29 + 1))) k29 3) = (zm_h (M (b + 1 + 2 * k29 + 34) 5)) from ((zg_pe (hgr _) (show k29 < 24 by omega) 3).trans rfl)]
        refine lv_iadd hx hb dL_isWell_65 ?_
        refine lv_istore_n (lv' := [(1, .int ((xf_sum (fun i => zm_h (M (b + 1 + 2 * i + 34) 5)) k29) + (zm_h (M (b + 1 + 2 * k29 + 34) 5)))), (11, .int (nI 0)), (10, .int (nI k29)), (2, .int (nI 0)), (5, .int (nI 0)), (6, .int (nI 0)), (3, .int (xf_sum (fun i => M (b + 1 + 2 * i + 34) 7) k29)), (4, .int (xf_sum (fun i => M (b + 1 + 2 * i + 34) 9) k29)), (7, .int (xf_sum (fun i => M (b + 1 + 2 * i + 34) 4) k29)), (8, .ref s.heap.size), (9, .int (nI 1)), (0, .ref b)]) hx hb dL_isWell_66 rfl hl (by decide) rfl (fun ls hl => ?_)
        refine lv_iload_n hx hb dL_isWell_67 rfl (lv_at hl 6 rfl) ?_
        refine lv_aload_n hx hb dL_isWell_68 rfl (lv_at hl 11 rfl) ?_
        refine lv_iload hx hb dL_isWell_69 (lv_at hl 2 rfl) ?_
        refine lv_bipush (v := (nI 6)) hx hb dL_isWell_71 (by decide) ?_
        refine xc_i (xr_V (As := [.int (nI k29), .int (nI 6)]) (rest := [.int (xf_sum (fun i => M (b + 1 + 2 * i + 34) 7) k29)]) (κ := 16) ⟨hx, hb, hml, hown, hts⟩ (cz_person l O (xr_up M s.heap.size (zw_r (b + 1) M (k29 + 1))) b tb2 (hzr _) (k := k29) (jj := 6) hk29 (by omega)) (cwV 2 hts gL_isWell_X6_person rfl rfl rfl (by decide +kernel) ⟨Nat.le_of_ble_eq_true rfl, Nat.le_of_ble_eq_true rfl⟩) hK hst hnw hS hW tb2 (by decide) rfl rfl rfl hl.1 rfl (Nat.le_of_ble_eq_true rfl) dL_isWell_73 ⟨Nat.le_of_ble_eq_true rfl, Nat.le_of_ble_eq_true rfl⟩) hS (fun r_106 M_104 H locs hq_105 hW hS => ?_)
        obtain ⟨hq_105a, hq_105b⟩ := hq_105
        rw [hq_105b] at hW
        rw [hq_105a]
        rw [show (zf_pe (b + 1) (xr_up M s.heap.size (zw_r (b + 1) M (k29 + 1))) k29 6) = (M (b + 1 + 2 * k29 + 34) 7) from ((zg_pe (hgr _) (show k29 < 24 by omega) 6).trans rfl)]
        refine lv_iadd hx hb dL_isWell_76 ?_
        refine lv_istore_n (lv' := [(3, .int ((xf_sum (fun i => M (b + 1 + 2 * i + 34) 7) k29) + (M (b + 1 + 2 * k29 + 34) 7))), (1, .int ((xf_sum (fun i => zm_h (M (b + 1 + 2 * i + 34) 5)) k29) + (zm_h (M (b + 1 + 2 * k29 + 34) 5)))), (11, .int (nI 0)), (10, .int (nI k29)), (2, .int (nI 0)), (5, .int (nI 0)), (6, .int (nI 0)), (4, .int (xf_sum (fun i => M (b + 1 + 2 * i + 34) 9) k29)), (7, .int (xf_sum (fun i => M (b + 1 + 2 * i + 34) 4) k29)), (8, .ref s.heap.size), (9, .int (nI 1)), (0, .ref b)]) hx hb dL_isWell_77 rfl hl (by decide) rfl (fun ls hl => ?_)
        refine lv_iload hx hb dL_isWell_78 (lv_at hl 7 rfl) ?_
        refine lv_aload_n hx hb dL_isWell_80 rfl (lv_at hl 11 rfl) ?_
        refine lv_iload hx hb dL_isWell_81 (lv_at hl 3 rfl) ?_
        refine lv_bipush (v := (nI 7)) hx hb dL_isWell_83 (by decide) ?_
        refine xc_i (xr_V (As := [.int (nI k29), .int (nI 7)]) (rest := [.int (xf_sum (fun i => M (b + 1 + 2 * i + 34) 9) k29)]) (κ := 16) ⟨hx, hb, hml, hown, hts⟩ (cz_person l O (xr_up M s.heap.size (zw_r (b + 1) M (k29 + 1))) b tb2 (hzr _) (k := k29) (jj := 7) hk29 (by omega)) (cwV 2 hts gL_isWell_X6_person rfl rfl rfl (by decide +kernel) ⟨Nat.le_of_ble_eq_true rfl, Nat.le_of_ble_eq_true rfl⟩) hK hst hnw hS hW tb2 (by decide) rfl rfl rfl hl.1 rfl (Nat.le_of_ble_eq_true rfl) dL_isWell_85 ⟨Nat.le_of_ble_eq_true rfl, Nat.le_of_ble_eq_true rfl⟩) hS (fun r_109 M_107 H locs hq_108 hW hS => ?_)
        obtain ⟨hq_108a, hq_108b⟩ := hq_108
        rw [hq_108b] at hW
        rw [hq_108a]
        rw [show (zf_pe (b + 1) (xr_up M s.heap.size (zw_r (b + 1) M (k29 + 1))) k29 7) = (M (b + 1 + 2 * k29 + 34) 9) from ((zg_pe (hgr _) (show k29 < 24 by omega) 7).trans rfl)]
        refine lv_iadd hx hb dL_isWell_88 ?_
        refine lv_istore (lv' := [(4, .int ((xf_sum (fun i => M (b + 1 + 2 * i + 34) 9) k29) + (M (b + 1 + 2 * k29 + 34) 9))), (3, .int ((xf_sum (fun i => M (b + 1 + 2 * i + 34) 7) k29) + (M (b + 1 + 2 * k29 + 34) 7))), (1, .int ((xf_sum (fun i => zm_h (M (b + 1 + 2 * i + 34) 5)) k29) + (zm_h (M (b + 1 + 2 * k29 + 34) 5)))), (11, .int (nI 0)), (10, .int (nI k29)), (2, .int (nI 0)), (5, .int (nI 0)), (6, .int (nI 0)), (7, .int (xf_sum (fun i => M (b + 1 + 2 * i + 34) 4) k29)), (8, .ref s.heap.size), (9, .int (nI 1)), (0, .ref b)]) hx hb dL_isWell_89 hl (by decide) rfl (fun ls hl => ?_)
        refine lv_iload hx hb dL_isWell_91 (lv_at hl 8 rfl) ?_
        refine lv_aload_n hx hb dL_isWell_93 rfl (lv_at hl 11 rfl) ?_
        refine lv_iload hx hb dL_isWell_94 (lv_at hl 4 rfl) ?_
        refine lv_iconst (v := (nI 4)) hx hb dL_isWell_96 (by decide) ?_
        refine xc_i (xr_V (As := [.int (nI k29), .int (nI 4)]) (rest := [.int (xf_sum (fun i => M (b + 1 + 2 * i + 34) 4) k29)]) (κ := 16) ⟨hx, hb, hml, hown, hts⟩ (cz_person l O (xr_up M s.heap.size (zw_r (b + 1) M (k29 + 1))) b tb2 (hzr _) (k := k29) (jj := 4) hk29 (by omega)) (cwV 2 hts gL_isWell_X6_person rfl rfl rfl (by decide +kernel) ⟨Nat.le_of_ble_eq_true rfl, Nat.le_of_ble_eq_true rfl⟩) hK hst hnw hS hW tb2 (by decide) rfl rfl rfl hl.1 rfl (Nat.le_of_ble_eq_true rfl) dL_isWell_97 ⟨Nat.le_of_ble_eq_true rfl, Nat.le_of_ble_eq_true rfl⟩) hS (fun r_112 M_110 H locs hq_111 hW hS => ?_)
        obtain ⟨hq_111a, hq_111b⟩ := hq_111
        rw [hq_111b] at hW
        rw [hq_111a]
        rw [show (zf_pe (b + 1) (xr_up M s.heap.size (zw_r (b + 1) M (k29 + 1))) k29 4) = (M (b + 1 + 2 * k29 + 34) 4) from ((zg_pe (hgr _) (show k29 < 24 by omega) 4).trans rfl)]
        refine lv_iadd hx hb dL_isWell_100 ?_
        refine lv_istore (lv' := [(7, .int ((xf_sum (fun i => M (b + 1 + 2 * i + 34) 4) k29) + (M (b + 1 + 2 * k29 + 34) 4))), (4, .int ((xf_sum (fun i => M (b + 1 + 2 * i + 34) 9) k29) + (M (b + 1 + 2 * k29 + 34) 9))), (3, .int ((xf_sum (fun i => M (b + 1 + 2 * i + 34) 7) k29) + (M (b + 1 + 2 * k29 + 34) 7))), (1, .int ((xf_sum (fun i => zm_h (M (b + 1 + 2 * i + 34) 5)) k29) + (zm_h (M (b + 1 + 2 * k29 + 34) 5)))), (11, .int (nI 0)), (10, .int (nI k29)), (2, .int (nI 0)), (5, .int (nI 0)), (6, .int (nI 0)), (8, .ref s.heap.size), (9, .int (nI 1)), (0, .ref b)]) hx hb dL_isWell_101 hl (by decide) rfl (fun ls hl => ?_)
        refine lv_iload hx hb dL_isWell_103 (lv_at hl 10 rfl) ?_
        refine lv_if_eq (tgt := 281) hx hb dL_isWell_105 (by decide) (fun c_113 => ?_) (fun c_113 => ?_)
        · exact absurd c_113 (by decide)
        · refine lv_iload hx hb dL_isWell_108 (lv_at hl 4 rfl) ?_
          refine lv_iconst (v := (nI 2)) hx hb dL_isWell_110 (by decide) ?_
          refine lv_icmp_ge (tgt := 157) hx hb dL_isWell_111 (by decide) (fun c_114 => ?_) (fun c_114 => ?_)
          · exact absurd c_114 (nI_ge (by omega) (by omega))
          · refine lv_aload_n hx hb dL_isWell_114 rfl (lv_at hl 11 rfl) ?_
            refine lv_iload hx hb dL_isWell_115 (lv_at hl 5 rfl) ?_
            refine lv_iconst (v := (nI 4)) hx hb dL_isWell_117 (by decide) ?_
            refine xc_i (xr_V (As := [.int (nI k29), .int (nI 4)]) (rest := []) (κ := 16) ⟨hx, hb, hml, hown, hts⟩ (cz_person l O (xr_up M s.heap.size (zw_r (b + 1) M (k29 + 1))) b tb2 (hzr _) (k := k29) (jj := 4) hk29 (by omega)) (cwV 2 hts gL_isWell_X6_person rfl rfl rfl (by decide +kernel) ⟨Nat.le_of_ble_eq_true rfl, Nat.le_of_ble_eq_true rfl⟩) hK hst hnw hS hW tb2 (by decide) rfl rfl rfl hl.1 rfl (Nat.le_of_ble_eq_true rfl) dL_isWell_118 ⟨Nat.le_of_ble_eq_true rfl, Nat.le_of_ble_eq_true rfl⟩) hS (fun r_117 M_115 H locs hq_116 hW hS => ?_)
            obtain ⟨hq_116a, hq_116b⟩ := hq_116
            rw [hq_116b] at hW
            rw [hq_116a]
            rw [show (zf_pe (b + 1) (xr_up M s.heap.size (zw_r (b + 1) M (k29 + 1))) k29 4) = (nI t1) from ((zg_pe (hgr _) (show k29 < 24 by omega) 4).trans p4)]
            refine lv_aload_n hx hb dL_isWell_121 rfl (lv_at hl 11 rfl) ?_
            refine lv_iload hx hb dL_isWell_122 (lv_at hl 5 rfl) ?_
            refine lv_iconst (v := (nI 5)) hx hb dL_isWell_124 (by decide) ?_
            refine xc_i (xr_V (As := [.int (nI k29), .int (nI 5)]) (rest := [.int (nI t1)]) (κ := 16) ⟨hx, hb, hml, hown, hts⟩ (cz_person l O (xr_up M s.heap.size (zw_r (b + 1) M (k29 + 1))) b tb2 (hzr _) (k := k29) (jj := 5) hk29 (by omega)) (cwV 2 hts gL_isWell_X6_person rfl rfl rfl (by decide +kernel) ⟨Nat.le_of_ble_eq_true rfl, Nat.le_of_ble_eq_true rfl⟩) hK hst hnw hS hW tb2 (by decide) rfl rfl rfl hl.1 rfl (Nat.le_of_ble_eq_true rfl) dL_isWell_125 ⟨Nat.le_of_ble_eq_true rfl, Nat.le_of_ble_eq_true rfl⟩) hS (fun r_120 M_118 H locs hq_119 hW hS => ?_)
            obtain ⟨hq_119a, hq_119b⟩ := hq_119
            rw [hq_119b] at hW
            rw [hq_119a]
            rw [show (zf_pe (b + 1) (xr_up M s.heap.size (zw_r (b + 1) M (k29 + 1))) k29 5) = (nI m1) from ((zg_pe (hgr _) (show k29 < 24 by omega) 5).trans p3)]
            refine lv_icmp_ge (tgt := 281) hx hb dL_isWell_128 (by decide) (fun c_121 => ?_) (fun c_121 => ?_)
            · exact absurd c_121 (nI_ge pt (by omega))
            · refine lv_aload_n hx hb dL_isWell_131 rfl (lv_at hl 11 rfl) ?_
              refine lv_iload hx hb dL_isWell_132 (lv_at hl 5 rfl) ?_
              refine lv_iconst (v := (nI 1)) hx hb dL_isWell_134 (by decide) ?_
              refine xc_i (xr_V (As := [.int (nI k29), .int (nI 1)]) (rest := []) (κ := 16) ⟨hx, hb, hml, hown, hts⟩ (cz_person l O (xr_up M s.heap.size (zw_r (b + 1) M (k29 + 1))) b tb2 (hzr _) (k := k29) (jj := 1) hk29 (by omega)) (cwV 2 hts gL_isWell_X6_person rfl rfl rfl (by decide +kernel) ⟨Nat.le_of_ble_eq_true rfl, Nat.le_of_ble_eq_true rfl⟩) hK hst hnw hS hW tb2 (by decide) rfl rfl rfl hl.1 rfl (Nat.le_of_ble_eq_true rfl) dL_isWell_135 ⟨Nat.le_of_ble_eq_true rfl, Nat.le_of_ble_eq_true rfl⟩) hS (fun r_124 M_122 H locs hq_123 hW hS => ?_)
              obtain ⟨hq_123a, hq_123b⟩ := hq_123
              rw [hq_123b] at hW
              rw [hq_123a]
              rw [show (zf_pe (b + 1) (xr_up M s.heap.size (zw_r (b + 1) M (k29 + 1))) k29 1) = (nI w0) from ((zg_pe (hgr _) (show k29 < 24 by omega) 1).trans hza)]
              refine lv_if_lt (tgt := 281) hx hb dL_isWell_138 (by decide) (fun c_125 => ?_) (fun c_125 => ?_)
              · exact absurd c_125 (nI_pos (by omega))
              · refine lv_aload_n hx hb dL_isWell_141 rfl (lv_at hl 11 rfl) ?_
                refine lv_iload hx hb dL_isWell_142 (lv_at hl 5 rfl) ?_
                refine lv_bipush (v := (nI 8)) hx hb dL_isWell_144 (by decide) ?_
                refine xc_i (xr_V (As := [.int (nI k29), .int (nI 8)]) (rest := []) (κ := 16) ⟨hx, hb, hml, hown, hts⟩ (cz_person l O (xr_up M s.heap.size (zw_r (b + 1) M (k29 + 1))) b tb2 (hzr _) (k := k29) (jj := 8) hk29 (by omega)) (cwV 2 hts gL_isWell_X6_person rfl rfl rfl (by decide +kernel) ⟨Nat.le_of_ble_eq_true rfl, Nat.le_of_ble_eq_true rfl⟩) hK hst hnw hS hW tb2 (by decide) rfl rfl rfl hl.1 rfl (Nat.le_of_ble_eq_true rfl) dL_isWell_146 ⟨Nat.le_of_ble_eq_true rfl, Nat.le_of_ble_eq_true rfl⟩) hS (fun r_128 M_126 H locs hq_127 hW hS => ?_)
                obtain ⟨hq_127a, hq_127b⟩ := hq_127
                rw [hq_127b] at hW
                rw [hq_127a]
                rw [show (zf_pe (b + 1) (xr_up M s.heap.size (zw_r (b + 1) M (k29 + 1))) k29 8) = (-6) from ((zg_pe (hgr _) (show k29 < 24 by omega) 8).trans p10)]
                refine lv_bipush (v := (-6)) hx hb dL_isWell_149 (by decide) ?_
                refine lv_icmp_ne (tgt := 281) hx hb dL_isWell_151 (by decide) (fun c_129 => ?_) (fun c_129 => ?_)
                · exact absurd c_129 (fun z => z rfl)
                · refine lv_goto (tgt := 206) hx hb dL_isWell_154 (by decide) ?_
                  refine lv_iload hx hb dL_isWell_206 (lv_at hl 4 rfl) ?_
                  refine lv_iconst (v := (nI 2)) hx hb dL_isWell_208 (by decide) ?_
                  refine lv_icmp_ne (tgt := 229) hx hb dL_isWell_209 (by decide) (fun c_130 => ?_) (fun c_130 => ?_)
                  · refine lv_iload hx hb dL_isWell_229 (lv_at hl 4 rfl) ?_
                    refine lv_if_ne (tgt := 238) hx hb dL_isWell_231 (by decide) (fun c_131 => ?_) (fun c_131 => ?_)
                    · exact absurd rfl c_131
                    · refine lv_iconst (v := (nI 1)) hx hb dL_isWell_234 (by decide) ?_
                      refine lv_goto (tgt := 239) hx hb dL_isWell_235 (by decide) ?_
                      refine lv_aload_n hx hb dL_isWell_239 rfl (lv_at hl 11 rfl) ?_
                      refine lv_iload hx hb dL_isWell_240 (lv_at hl 5 rfl) ?_
                      refine lv_iconst (v := (nI 2)) hx hb dL_isWell_242 (by decide) ?_
                      refine xc_i (xr_V (As := [.int (nI k29), .int (nI 2)]) (rest := [.int (nI 1)]) (κ := 16) ⟨hx, hb, hml, hown, hts⟩ (cz_person l O (xr_up M s.heap.size (zw_r (b + 1) M (k29 + 1))) b tb2 (hzr _) (k := k29) (jj := 2) hk29 (by omega)) (cwV 2 hts gL_isWell_X6_person rfl rfl rfl (by decide +kernel) ⟨Nat.le_of_ble_eq_true rfl, Nat.le_of_ble_eq_true rfl⟩) hK hst hnw hS hW tb2 (by decide) rfl rfl rfl hl.1 rfl (Nat.le_of_ble_eq_true rfl) dL_isWell_243 ⟨Nat.le_of_ble_eq_true rfl, Nat.le_of_ble_eq_true rfl⟩) hS (fun r_134 M_132 H locs hq_133 hW hS => ?_)
                      obtain ⟨hq_133a, hq_133b⟩ := hq_133
                      rw [hq_133b] at hW
                      rw [hq_133a]
                      rw [show (zf_pe (b + 1) (xr_up M s.heap.size (zw_r (b + 1) M (k29 + 1))) k29 2) = (nI j0) from ((zg_pe (hgr _) (show k29 < 24 by omega) 2).trans hpl)]
                      refine lv_if_lt (tgt := 253) hx hb dL_isWell_246 (by decide) (fun c_135 => ?_) (fun c_135 => ?_)
                      · exact absurd c_135 (nI_pos (by omega))
                      · refine lv_iconst (v := (nI 1)) hx hb dL_isWell_249 (by decide) ?_
                        refine lv_goto (tgt := 254) hx hb dL_isWell_250 (by decide) ?_
                        refine lv_icmp_ne (tgt := 281) hx hb dL_isWell_254 (by decide) (fun c_136 => ?_) (fun c_136 => ?_)
                        · exact absurd c_136 (fun z => z rfl)
                        · refine lv_aload_n hx hb dL_isWell_257 rfl (lv_at hl 11 rfl) ?_
                          refine lv_iload hx hb dL_isWell_258 (lv_at hl 5 rfl) ?_
                          refine lv_iconst (v := (nI 3)) hx hb dL_isWell_260 (by decide) ?_
                          refine xc_i (xr_V (As := [.int (nI k29), .int (nI 3)]) (rest := []) (κ := 16) ⟨hx, hb, hml, hown, hts⟩ (cz_person l O (xr_up M s.heap.size (zw_r (b + 1) M (k29 + 1))) b tb2 (hzr _) (k := k29) (jj := 3) hk29 (by omega)) (cwV 2 hts gL_isWell_X6_person rfl rfl rfl (by decide +kernel) ⟨Nat.le_of_ble_eq_true rfl, Nat.le_of_ble_eq_true rfl⟩) hK hst hnw hS hW tb2 (by decide) rfl rfl rfl hl.1 rfl (Nat.le_of_ble_eq_true rfl) dL_isWell_261 ⟨Nat.le_of_ble_eq_true rfl, Nat.le_of_ble_eq_true rfl⟩) hS (fun r_139 M_137 H locs hq_138 hW hS => ?_)
                          obtain ⟨hq_138a, hq_138b⟩ := hq_138
                          rw [hq_138b] at hW
                          rw [hq_138a]
                          rw [show (zf_pe (b + 1) (xr_up M s.heap.size (zw_r (b + 1) M (k29 + 1))) k29 3) = (nI 0) from ((zg_pe (hgr _) (show k29 < 24 by omega) 3).trans (zh_0 ph))]
                          refine lv_if_eq (tgt := 277) hx hb dL_isWell_264 (by decide) (fun c_140 => ?_) (fun c_140 => ?_)
                          · refine lv_iconst (v := (nI 1)) hx hb dL_isWell_277 (by decide) ?_
                            refine lv_goto (tgt := 282) hx hb dL_isWell_278 (by decide) ?_
                            refine lv_istore (lv' := [(9, .int (nI 1)), (7, .int ((xf_sum (fun i => M (b + 1 + 2 * i + 34) 4) k29) + (M (b + 1 + 2 * k29 + 34) 4))), (4, .int ((xf_sum (fun i => M (b + 1 + 2 * i + 34) 9) k29) + (M (b + 1 + 2 * k29 + 34) 9))), (3, .int ((xf_sum (fun i => M (b + 1 + 2 * i + 34) 7) k29) + (M (b + 1 + 2 * k29 + 34) 7))), (1, .int ((xf_sum (fun i => zm_h (M (b + 1 + 2 * i + 34) 5)) k29) + (zm_h (M (b + 1 + 2 * k29 + 34) 5)))), (11, .int (nI 0)), (10, .int (nI k29)), (2, .int (nI 0)), (5, .int (nI 0)), (6, .int (nI 0)), (8, .ref s.heap.size), (0, .ref b)]) hx hb dL_isWell_282 hl (by decide) rfl (fun ls hl => ?_)
                            refine lv_iinc (v := (nI (k29 + 1))) (lv' := [(10, .int (nI (k29 + 1))), (9, .int (nI 1)), (7, .int ((xf_sum (fun i => M (b + 1 + 2 * i + 34) 4) k29) + (M (b + 1 + 2 * k29 + 34) 4))), (4, .int ((xf_sum (fun i => M (b + 1 + 2 * i + 34) 9) k29) + (M (b + 1 + 2 * k29 + 34) 9))), (3, .int ((xf_sum (fun i => M (b + 1 + 2 * i + 34) 7) k29) + (M (b + 1 + 2 * k29 + 34) 7))), (1, .int ((xf_sum (fun i => zm_h (M (b + 1 + 2 * i + 34) 5)) k29) + (zm_h (M (b + 1 + 2 * k29 + 34) 5)))), (11, .int (nI 0)), (2, .int (nI 0)), (5, .int (nI 0)), (6, .int (nI 0)), (8, .ref s.heap.size), (0, .ref b)]) hx hb dL_isWell_284 hl (k := 6) rfl ((nI_1 k29)) (by decide) rfl (fun ls hl => ?_)
                            refine lv_goto (tgt := 29) hx hb dL_isWell_287 (by decide) ?_
                            exact ih29 () _ _ _ ⟨hW, hS, lv_sub hl [0, 7, 8, 9, 5, 4, 3, 2, 10, 1, 11] rfl, trivial⟩
                          · exact absurd rfl c_140
                  · exact absurd c_130 (by decide)
      · obtain ⟨w0, j0, hw0, hza, hQj, hpl, hj24⟩ := zw_pl hz hold hk29 pw
        refine lv_aload_n hx hb dL_isWell_39 rfl (lv_at hl 10 rfl) ?_
        refine lv_iload hx hb dL_isWell_40 (lv_at hl 0 rfl) ?_
        refine lv_iconst (v := (nI 0)) hx hb dL_isWell_42 (by decide) ?_
        refine xc_i (xr_V (As := [.int (nI k29), .int (nI 0)]) (rest := []) (κ := 16) ⟨hx, hb, hml, hown, hts⟩ (cz_person l O (xr_up M s.heap.size (zw_r (b + 1) M k29)) b tb2 (hzr _) (k := k29) (jj := 0) hk29 (by omega)) (cwV 2 hts gL_isWell_X6_person rfl rfl rfl (by decide +kernel) ⟨Nat.le_of_ble_eq_true rfl, Nat.le_of_ble_eq_true rfl⟩) hK hst hnw hS hW tb2 (by decide) rfl rfl rfl hl.1 rfl (Nat.le_of_ble_eq_true rfl) dL_isWell_43 ⟨Nat.le_of_ble_eq_true rfl, Nat.le_of_ble_eq_true rfl⟩) hS (fun r_143 M_141 H locs hq_142 hW hS => ?_)
        obtain ⟨hq_142a, hq_142b⟩ := hq_142
        rw [hq_142b] at hW
        rw [hq_142a]
        rw [show (zf_pe (b + 1) (xr_up M s.heap.size (zw_r (b + 1) M k29)) k29 0) = (nI 0) from ((zg_pe (hgr _) (show k29 < 24 by omega) 0).trans pw)]
        refine lv_istore (lv' := [(11, .int (nI 0)), (10, .int (nI k29)), (2, .int (nI 0)), (5, .int (nI 0)), (6, .int (nI 0)), (1, .int (xf_sum (fun i => zm_h (M (b + 1 + 2 * i + 34) 5)) k29)), (3, .int (xf_sum (fun i => M (b + 1 + 2 * i + 34) 7) k29)), (4, .int (xf_sum (fun i => M (b + 1 + 2 * i + 34) 9) k29)), (7, .int (xf_sum (fun i => M (b + 1 + 2 * i + 34) 4) k29)), (8, .ref s.heap.size), (9, .int (nI 1)), (0, .ref b)]) hx hb dL_isWell_46 hl (by decide) rfl (fun ls hl => ?_)
        refine lv_aload hx hb dL_isWell_48 (lv_at hl 9 rfl) ?_
        refine lv_iload hx hb dL_isWell_50 (lv_at hl 0 rfl) ?_
        refine lv_dup2_11 hx hb dL_isWell_52 rfl rfl ?_
        refine xg_iald (κ := 104) (n := 4) hx hb hK hW zt_xs (by decide) rfl 0 rfl (by decide) (by decide) dL_isWell_53 ?_
        refine lv_iconst (v := (nI 1)) hx hb dL_isWell_54 (by decide) ?_
        refine lv_iadd hx hb dL_isWell_55 ?_
        refine xg_iast (κ := 104) (n := 4) hx hb hK O hW hS zt_xs (by decide) (fun _ => rfl) (fun _ => trivial) 0 rfl (by decide) (by decide) dL_isWell_56 (fun H locs hW hS => ?_)
        obtain ⟨M_144, eM_144⟩ : ∃ M9, M9 = xu_p (xr_up M s.heap.size (zw_r (b + 1) M k29)) s.heap.size 0 (((xr_up M s.heap.size (zw_r (b + 1) M k29)) s.heap.size 0) + (nI 1)) := ⟨_, rfl⟩
        rw [← eM_144] at hW
        have eZ : M_144 = (xr_up M s.heap.size (zw_r (b + 1) M (k29 + 1))) := by rw [eM_144]; unfold xu_p; rw [xr_s, zx_2]; exact congrArg (xr_up M s.heap.size) (zw_r1 pw (by omega))
        rw [eZ] at hW
        refine lv_iload_n hx hb dL_isWell_57 rfl (lv_at hl 5 rfl) ?_
        refine lv_aload_n hx hb dL_isWell_58 rfl (lv_at hl 11 rfl) ?_
        refine lv_iload hx hb dL_isWell_59 (lv_at hl 1 rfl) ?_
        refine lv_iconst (v := (nI 3)) hx hb dL_isWell_61 (by decide) ?_
        refine xc_i (xr_V (As := [.int (nI k29), .int (nI 3)]) (rest := [.int (xf_sum (fun i => zm_h (M (b + 1 + 2 * i + 34) 5)) k29)]) (κ := 16) ⟨hx, hb, hml, hown, hts⟩ (cz_person l O (xr_up M s.heap.size (zw_r (b + 1) M (k29 + 1))) b tb2 (hzr _) (k := k29) (jj := 3) hk29 (by omega)) (cwV 2 hts gL_isWell_X6_person rfl rfl rfl (by decide +kernel) ⟨Nat.le_of_ble_eq_true rfl, Nat.le_of_ble_eq_true rfl⟩) hK hst hnw hS hW tb2 (by decide) rfl rfl rfl hl.1 rfl (Nat.le_of_ble_eq_true rfl) dL_isWell_62 ⟨Nat.le_of_ble_eq_true rfl, Nat.le_of_ble_eq_true rfl⟩) hS (fun r_147 M_145 H locs hq_146 hW hS => ?_)
        obtain ⟨hq_146a, hq_146b⟩ := hq_146
        rw [hq_146b] at hW
        rw [hq_146a]
        rw [show (zf_pe (b + 1) (xr_up M s.heap.size (zw_r (b + 1) M (k29 + 1))) k29 3) = (zm_h (M (b + 1 + 2 * k29 + 34) 5)) from ((zg_pe (hgr _) (show k29 < 24 by omega) 3).trans rfl)]
        refine lv_iadd hx hb dL_isWell_65 ?_
        refine lv_istore_n (lv' := [(1, .int ((xf_sum (fun i => zm_h (M (b + 1 + 2 * i + 34) 5)) k29) + (zm_h (M (b + 1 + 2 * k29 + 34) 5)))), (11, .int (nI 0)), (10, .int (nI k29)), (2, .int (nI 0)), (5, .int (nI 0)), (6, .int (nI 0)), (3, .int (xf_sum (fun i => M (b + 1 + 2 * i + 34) 7) k29)), (4, .int (xf_sum (fun i => M (b + 1 + 2 * i + 34) 9) k29)), (7, .int (xf_sum (fun i => M (b + 1 + 2 * i + 34) 4) k29)), (8, .ref s.heap.size), (9, .int (nI 1)), (0, .ref b)]) hx hb dL_isWell_66 rfl hl (by decide) rfl (fun ls hl => ?_)
        refine lv_iload_n hx hb dL_isWell_67 rfl (lv_at hl 6 rfl) ?_
        refine lv_aload_n hx hb dL_isWell_68 rfl (lv_at hl 11 rfl) ?_
        refine lv_iload hx hb dL_isWell_69 (lv_at hl 2 rfl) ?_
        refine lv_bipush (v := (nI 6)) hx hb dL_isWell_71 (by decide) ?_
        refine xc_i (xr_V (As := [.int (nI k29), .int (nI 6)]) (rest := [.int (xf_sum (fun i => M (b + 1 + 2 * i + 34) 7) k29)]) (κ := 16) ⟨hx, hb, hml, hown, hts⟩ (cz_person l O (xr_up M s.heap.size (zw_r (b + 1) M (k29 + 1))) b tb2 (hzr _) (k := k29) (jj := 6) hk29 (by omega)) (cwV 2 hts gL_isWell_X6_person rfl rfl rfl (by decide +kernel) ⟨Nat.le_of_ble_eq_true rfl, Nat.le_of_ble_eq_true rfl⟩) hK hst hnw hS hW tb2 (by decide) rfl rfl rfl hl.1 rfl (Nat.le_of_ble_eq_true rfl) dL_isWell_73 ⟨Nat.le_of_ble_eq_true rfl, Nat.le_of_ble_eq_true rfl⟩) hS (fun r_150 M_148 H locs hq_149 hW hS => ?_)
        obtain ⟨hq_149a, hq_149b⟩ := hq_149
        rw [hq_149b] at hW
        rw [hq_149a]
        rw [show (zf_pe (b + 1) (xr_up M s.heap.size (zw_r (b + 1) M (k29 + 1))) k29 6) = (M (b + 1 + 2 * k29 + 34) 7) from ((zg_pe (hgr _) (show k29 < 24 by omega) 6).trans rfl)]
        refine lv_iadd hx hb dL_isWell_76 ?_
        refine lv_istore_n (lv' := [(3, .int ((xf_sum (fun i => M (b + 1 + 2 * i + 34) 7) k29) + (M (b + 1 + 2 * k29 + 34) 7))), (1, .int ((xf_sum (fun i => zm_h (M (b + 1 + 2 * i + 34) 5)) k29) + (zm_h (M (b + 1 + 2 * k29 + 34) 5)))), (11, .int (nI 0)), (10, .int (nI k29)), (2, .int (nI 0)), (5, .int (nI 0)), (6, .int (nI 0)), (4, .int (xf_sum (fun i => M (b + 1 + 2 * i + 34) 9) k29)), (7, .int (xf_sum (fun i => M (b + 1 + 2 * i + 34) 4) k29)), (8, .ref s.heap.size), (9, .int (nI 1)), (0, .ref b)]) hx hb dL_isWell_77 rfl hl (by decide) rfl (fun ls hl => ?_)
        refine lv_iload hx hb dL_isWell_78 (lv_at hl 7 rfl) ?_
        refine lv_aload_n hx hb dL_isWell_80 rfl (lv_at hl 11 rfl) ?_
        refine lv_iload hx hb dL_isWell_81 (lv_at hl 3 rfl) ?_
        refine lv_bipush (v := (nI 7)) hx hb dL_isWell_83 (by decide) ?_
        refine xc_i (xr_V (As := [.int (nI k29), .int (nI 7)]) (rest := [.int (xf_sum (fun i => M (b + 1 + 2 * i + 34) 9) k29)]) (κ := 16) ⟨hx, hb, hml, hown, hts⟩ (cz_person l O (xr_up M s.heap.size (zw_r (b + 1) M (k29 + 1))) b tb2 (hzr _) (k := k29) (jj := 7) hk29 (by omega)) (cwV 2 hts gL_isWell_X6_person rfl rfl rfl (by decide +kernel) ⟨Nat.le_of_ble_eq_true rfl, Nat.le_of_ble_eq_true rfl⟩) hK hst hnw hS hW tb2 (by decide) rfl rfl rfl hl.1 rfl (Nat.le_of_ble_eq_true rfl) dL_isWell_85 ⟨Nat.le_of_ble_eq_true rfl, Nat.le_of_ble_eq_true rfl⟩) hS (fun r_153 M_151 H locs hq_152 hW hS => ?_)
        obtain ⟨hq_152a, hq_152b⟩ := hq_152
        rw [hq_152b] at hW
        rw [hq_152a]
        rw [show (zf_pe (b + 1) (xr_up M s.heap.size (zw_r (b + 1) M (k29 + 1))) k29 7) = (M (b + 1 + 2 * k29 + 34) 9) from ((zg_pe (hgr _) (show k29 < 24 by omega) 7).trans rfl)]
        refine lv_iadd hx hb dL_isWell_88 ?_
        refine lv_istore (lv' := [(4, .int ((xf_sum (fun i => M (b + 1 + 2 * i + 34) 9) k29) + (M (b + 1 + 2 * k29 + 34) 9))), (3, .int ((xf_sum (fun i => M (b + 1 + 2 * i + 34) 7) k29) + (M (b + 1 + 2 * k29 + 34) 7))), (1, .int ((xf_sum (fun i => zm_h (M (b + 1 + 2 * i + 34) 5)) k29) + (zm_h (M (b + 1 + 2 * k29 + 34) 5)))), (11, .int (nI 0)), (10, .int (nI k29)), (2, .int (nI 0)), (5, .int (nI 0)), (6, .int (nI 0)), (7, .int (xf_sum (fun i => M (b + 1 + 2 * i + 34) 4) k29)), (8, .ref s.heap.size), (9, .int (nI 1)), (0, .ref b)]) hx hb dL_isWell_89 hl (by decide) rfl (fun ls hl => ?_)
        refine lv_iload hx hb dL_isWell_91 (lv_at hl 8 rfl) ?_
        refine lv_aload_n hx hb dL_isWell_93 rfl (lv_at hl 11 rfl) ?_
        refine lv_iload hx hb dL_isWell_94 (lv_at hl 4 rfl) ?_
        refine lv_iconst (v := (nI 4)) hx hb dL_isWell_96 (by decide) ?_
        refine xc_i (xr_V (As := [.int (nI k29), .int (nI 4)]) (rest := [.int (xf_sum (fun i => M (b + 1 + 2 * i + 34) 4) k29)]) (κ := 16) ⟨hx, hb, hml, hown, hts⟩ (cz_person l O (xr_up M s.heap.size (zw_r (b + 1) M (k29 + 1))) b tb2 (hzr _) (k := k29) (jj := 4) hk29 (by omega)) (cwV 2 hts gL_isWell_X6_person rfl rfl rfl (by decide +kernel) ⟨Nat.le_of_ble_eq_true rfl, Nat.le_of_ble_eq_true rfl⟩) hK hst hnw hS hW tb2 (by decide) rfl rfl rfl hl.1 rfl (Nat.le_of_ble_eq_true rfl) dL_isWell_97 ⟨Nat.le_of_ble_eq_true rfl, Nat.le_of_ble_eq_true rfl⟩) hS (fun r_156 M_154 H locs hq_155 hW hS => ?_)
        obtain ⟨hq_155a, hq_155b⟩ := hq_155
        rw [hq_155b] at hW
        rw [hq_155a]
        rw [show (zf_pe (b + 1) (xr_up M s.heap.size (zw_r (b + 1) M (k29 + 1))) k29 4) = (M (b + 1 + 2 * k29 + 34) 4) from ((zg_pe (hgr _) (show k29 < 24 by omega) 4).trans rfl)]
        refine lv_iadd hx hb dL_isWell_100 ?_
        refine lv_istore (lv' := [(7, .int ((xf_sum (fun i => M (b + 1 + 2 * i + 34) 4) k29) + (M (b + 1 + 2 * k29 + 34) 4))), (4, .int ((xf_sum (fun i => M (b + 1 + 2 * i + 34) 9) k29) + (M (b + 1 + 2 * k29 + 34) 9))), (3, .int ((xf_sum (fun i => M (b + 1 + 2 * i + 34) 7) k29) + (M (b + 1 + 2 * k29 + 34) 7))), (1, .int ((xf_sum (fun i => zm_h (M (b + 1 + 2 * i + 34) 5)) k29) + (zm_h (M (b + 1 + 2 * k29 + 34) 5)))), (11, .int (nI 0)), (10, .int (nI k29)), (2, .int (nI 0)), (5, .int (nI 0)), (6, .int (nI 0)), (8, .ref s.heap.size), (9, .int (nI 1)), (0, .ref b)]) hx hb dL_isWell_101 hl (by decide) rfl (fun ls hl => ?_)
        refine lv_iload hx hb dL_isWell_103 (lv_at hl 10 rfl) ?_
        refine lv_if_eq (tgt := 281) hx hb dL_isWell_105 (by decide) (fun c_157 => ?_) (fun c_157 => ?_)
        · exact absurd c_157 (by decide)
        · refine lv_iload hx hb dL_isWell_108 (lv_at hl 4 rfl) ?_
          refine lv_iconst (v := (nI 2)) hx hb dL_isWell_110 (by decide) ?_
          refine lv_icmp_ge (tgt := 157) hx hb dL_isWell_111 (by decide) (fun c_158 => ?_) (fun c_158 => ?_)
          · exact absurd c_158 (nI_ge (by omega) (by omega))
          · refine lv_aload_n hx hb dL_isWell_114 rfl (lv_at hl 11 rfl) ?_
            refine lv_iload hx hb dL_isWell_115 (lv_at hl 5 rfl) ?_
            refine lv_iconst (v := (nI 4)) hx hb dL_isWell_117 (by decide) ?_
            refine xc_i (xr_V (As := [.int (nI k29), .int (nI 4)]) (rest := []) (κ := 16) ⟨hx, hb, hml, hown, hts⟩ (cz_person l O (xr_up M s.heap.size (zw_r (b + 1) M (k29 + 1))) b tb2 (hzr _) (k := k29) (jj := 4) hk29 (by omega)) (cwV 2 hts gL_isWell_X6_person rfl rfl rfl (by decide +kernel) ⟨Nat.le_of_ble_eq_true rfl, Nat.le_of_ble_eq_true rfl⟩) hK hst hnw hS hW tb2 (by decide) rfl rfl rfl hl.1 rfl (Nat.le_of_ble_eq_true rfl) dL_isWell_118 ⟨Nat.le_of_ble_eq_true rfl, Nat.le_of_ble_eq_true rfl⟩) hS (fun r_161 M_159 H locs hq_160 hW hS => ?_)
            obtain ⟨hq_160a, hq_160b⟩ := hq_160
            rw [hq_160b] at hW
            rw [hq_160a]
            rw [show (zf_pe (b + 1) (xr_up M s.heap.size (zw_r (b + 1) M (k29 + 1))) k29 4) = (nI t1) from ((zg_pe (hgr _) (show k29 < 24 by omega) 4).trans p4)]
            refine lv_aload_n hx hb dL_isWell_121 rfl (lv_at hl 11 rfl) ?_
            refine lv_iload hx hb dL_isWell_122 (lv_at hl 5 rfl) ?_
            refine lv_iconst (v := (nI 5)) hx hb dL_isWell_124 (by decide) ?_
            refine xc_i (xr_V (As := [.int (nI k29), .int (nI 5)]) (rest := [.int (nI t1)]) (κ := 16) ⟨hx, hb, hml, hown, hts⟩ (cz_person l O (xr_up M s.heap.size (zw_r (b + 1) M (k29 + 1))) b tb2 (hzr _) (k := k29) (jj := 5) hk29 (by omega)) (cwV 2 hts gL_isWell_X6_person rfl rfl rfl (by decide +kernel) ⟨Nat.le_of_ble_eq_true rfl, Nat.le_of_ble_eq_true rfl⟩) hK hst hnw hS hW tb2 (by decide) rfl rfl rfl hl.1 rfl (Nat.le_of_ble_eq_true rfl) dL_isWell_125 ⟨Nat.le_of_ble_eq_true rfl, Nat.le_of_ble_eq_true rfl⟩) hS (fun r_164 M_162 H locs hq_163 hW hS => ?_)
            obtain ⟨hq_163a, hq_163b⟩ := hq_163
            rw [hq_163b] at hW
            rw [hq_163a]
            rw [show (zf_pe (b + 1) (xr_up M s.heap.size (zw_r (b + 1) M (k29 + 1))) k29 5) = (nI m1) from ((zg_pe (hgr _) (show k29 < 24 by omega) 5).trans p3)]
            refine lv_icmp_ge (tgt := 281) hx hb dL_isWell_128 (by decide) (fun c_165 => ?_) (fun c_165 => ?_)
            · exact absurd c_165 (nI_ge pt (by omega))
            · refine lv_aload_n hx hb dL_isWell_131 rfl (lv_at hl 11 rfl) ?_
              refine lv_iload hx hb dL_isWell_132 (lv_at hl 5 rfl) ?_
              refine lv_iconst (v := (nI 1)) hx hb dL_isWell_134 (by decide) ?_
              refine xc_i (xr_V (As := [.int (nI k29), .int (nI 1)]) (rest := []) (κ := 16) ⟨hx, hb, hml, hown, hts⟩ (cz_person l O (xr_up M s.heap.size (zw_r (b + 1) M (k29 + 1))) b tb2 (hzr _) (k := k29) (jj := 1) hk29 (by omega)) (cwV 2 hts gL_isWell_X6_person rfl rfl rfl (by decide +kernel) ⟨Nat.le_of_ble_eq_true rfl, Nat.le_of_ble_eq_true rfl⟩) hK hst hnw hS hW tb2 (by decide) rfl rfl rfl hl.1 rfl (Nat.le_of_ble_eq_true rfl) dL_isWell_135 ⟨Nat.le_of_ble_eq_true rfl, Nat.le_of_ble_eq_true rfl⟩) hS (fun r_168 M_166 H locs hq_167 hW hS => ?_)
              obtain ⟨hq_167a, hq_167b⟩ := hq_167
              rw [hq_167b] at hW
              rw [hq_167a]
              rw [show (zf_pe (b + 1) (xr_up M s.heap.size (zw_r (b + 1) M (k29 + 1))) k29 1) = (nI w0) from ((zg_pe (hgr _) (show k29 < 24 by omega) 1).trans hza)]
              refine lv_if_lt (tgt := 281) hx hb dL_isWell_138 (by decide) (fun c_169 => ?_) (fun c_169 => ?_)
              · exact absurd c_169 (nI_pos (by omega))
              · refine lv_aload_n hx hb dL_isWell_141 rfl (lv_at hl 11 rfl) ?_
                refine lv_iload hx hb dL_isWell_142 (lv_at hl 5 rfl) ?_
                refine lv_bipush (v := (nI 8)) hx hb dL_isWell_144 (by decide) ?_
                refine xc_i (xr_V (As := [.int (nI k29), .int (nI 8)]) (rest := []) (κ := 16) ⟨hx, hb, hml, hown, hts⟩ (cz_person l O (xr_up M s.heap.size (zw_r (b + 1) M (k29 + 1))) b tb2 (hzr _) (k := k29) (jj := 8) hk29 (by omega)) (cwV 2 hts gL_isWell_X6_person rfl rfl rfl (by decide +kernel) ⟨Nat.le_of_ble_eq_true rfl, Nat.le_of_ble_eq_true rfl⟩) hK hst hnw hS hW tb2 (by decide) rfl rfl rfl hl.1 rfl (Nat.le_of_ble_eq_true rfl) dL_isWell_146 ⟨Nat.le_of_ble_eq_true rfl, Nat.le_of_ble_eq_true rfl⟩) hS (fun r_172 M_170 H locs hq_171 hW hS => ?_)
                obtain ⟨hq_171a, hq_171b⟩ := hq_171
                rw [hq_171b] at hW
                rw [hq_171a]
                rw [show (zf_pe (b + 1) (xr_up M s.heap.size (zw_r (b + 1) M (k29 + 1))) k29 8) = (-6) from ((zg_pe (hgr _) (show k29 < 24 by omega) 8).trans p10)]
                refine lv_bipush (v := (-6)) hx hb dL_isWell_149 (by decide) ?_
                refine lv_icmp_ne (tgt := 281) hx hb dL_isWell_151 (by decide) (fun c_173 => ?_) (fun c_173 => ?_)
                · exact absurd c_173 (fun z => z rfl)
                · refine lv_goto (tgt := 206) hx hb dL_isWell_154 (by decide) ?_
                  refine lv_iload hx hb dL_isWell_206 (lv_at hl 4 rfl) ?_
                  refine lv_iconst (v := (nI 2)) hx hb dL_isWell_208 (by decide) ?_
                  refine lv_icmp_ne (tgt := 229) hx hb dL_isWell_209 (by decide) (fun c_174 => ?_) (fun c_174 => ?_)
                  · refine lv_iload hx hb dL_isWell_229 (lv_at hl 4 rfl) ?_
                    refine lv_if_ne (tgt := 238) hx hb dL_isWell_231 (by decide) (fun c_175 => ?_) (fun c_175 => ?_)
                    · exact absurd rfl c_175
                    · refine lv_iconst (v := (nI 1)) hx hb dL_isWell_234 (by decide) ?_
                      refine lv_goto (tgt := 239) hx hb dL_isWell_235 (by decide) ?_
                      refine lv_aload_n hx hb dL_isWell_239 rfl (lv_at hl 11 rfl) ?_
                      refine lv_iload hx hb dL_isWell_240 (lv_at hl 5 rfl) ?_
                      refine lv_iconst (v := (nI 2)) hx hb dL_isWell_242 (by decide) ?_
                      refine xc_i (xr_V (As := [.int (nI k29), .int (nI 2)]) (rest := [.int (nI 1)]) (κ := 16) ⟨hx, hb, hml, hown, hts⟩ (cz_person l O (xr_up M s.heap.size (zw_r (b + 1) M (k29 + 1))) b tb2 (hzr _) (k := k29) (jj := 2) hk29 (by omega)) (cwV 2 hts gL_isWell_X6_person rfl rfl rfl (by decide +kernel) ⟨Nat.le_of_ble_eq_true rfl, Nat.le_of_ble_eq_true rfl⟩) hK hst hnw hS hW tb2 (by decide) rfl rfl rfl hl.1 rfl (Nat.le_of_ble_eq_true rfl) dL_isWell_243 ⟨Nat.le_of_ble_eq_true rfl, Nat.le_of_ble_eq_true rfl⟩) hS (fun r_178 M_176 H locs hq_177 hW hS => ?_)
                      obtain ⟨hq_177a, hq_177b⟩ := hq_177
                      rw [hq_177b] at hW
                      rw [hq_177a]
                      rw [show (zf_pe (b + 1) (xr_up M s.heap.size (zw_r (b + 1) M (k29 + 1))) k29 2) = (nI j0) from ((zg_pe (hgr _) (show k29 < 24 by omega) 2).trans hpl)]
                      refine lv_if_lt (tgt := 253) hx hb dL_isWell_246 (by decide) (fun c_179 => ?_) (fun c_179 => ?_)
                      · exact absurd c_179 (nI_pos (by omega))
                      · refine lv_iconst (v := (nI 1)) hx hb dL_isWell_249 (by decide) ?_
                        refine lv_goto (tgt := 254) hx hb dL_isWell_250 (by decide) ?_
                        refine lv_icmp_ne (tgt := 281) hx hb dL_isWell_254 (by decide) (fun c_180 => ?_) (fun c_180 => ?_)
                        · exact absurd c_180 (fun z => z rfl)
                        · refine lv_aload_n hx hb dL_isWell_257 rfl (lv_at hl 11 rfl) ?_
                          refine lv_iload hx hb dL_isWell_258 (lv_at hl 5 rfl) ?_
                          refine lv_iconst (v := (nI 3)) hx hb dL_isWell_260 (by decide) ?_
                          refine xc_i (xr_V (As := [.int (nI k29), .int (nI 3)]) (rest := []) (κ := 16) ⟨hx, hb, hml, hown, hts⟩ (cz_person l O (xr_up M s.heap.size (zw_r (b + 1) M (k29 + 1))) b tb2 (hzr _) (k := k29) (jj := 3) hk29 (by omega)) (cwV 2 hts gL_isWell_X6_person rfl rfl rfl (by decide +kernel) ⟨Nat.le_of_ble_eq_true rfl, Nat.le_of_ble_eq_true rfl⟩) hK hst hnw hS hW tb2 (by decide) rfl rfl rfl hl.1 rfl (Nat.le_of_ble_eq_true rfl) dL_isWell_261 ⟨Nat.le_of_ble_eq_true rfl, Nat.le_of_ble_eq_true rfl⟩) hS (fun r_183 M_181 H locs hq_182 hW hS => ?_)
                          obtain ⟨hq_182a, hq_182b⟩ := hq_182
                          rw [hq_182b] at hW
                          rw [hq_182a]
                          rw [show (zf_pe (b + 1) (xr_up M s.heap.size (zw_r (b + 1) M (k29 + 1))) k29 3) = (nI 1) from ((zg_pe (hgr _) (show k29 < 24 by omega) 3).trans (zh_1 ph))]
                          refine lv_if_eq (tgt := 277) hx hb dL_isWell_264 (by decide) (fun c_184 => ?_) (fun c_184 => ?_)
                          · exact absurd c_184 (by decide)
                          · refine lv_aload_n hx hb dL_isWell_267 rfl (lv_at hl 11 rfl) ?_
                            refine lv_iload hx hb dL_isWell_268 (lv_at hl 5 rfl) ?_
                            refine lv_iconst (v := (nI 4)) hx hb dL_isWell_270 (by decide) ?_
                            refine xc_i (xr_V (As := [.int (nI k29), .int (nI 4)]) (rest := []) (κ := 16) ⟨hx, hb, hml, hown, hts⟩ (cz_person l O (xr_up M s.heap.size (zw_r (b + 1) M (k29 + 1))) b tb2 (hzr _) (k := k29) (jj := 4) hk29 (by omega)) (cwV 2 hts gL_isWell_X6_person rfl rfl rfl (by decide +kernel) ⟨Nat.le_of_ble_eq_true rfl, Nat.le_of_ble_eq_true rfl⟩) hK hst hnw hS hW tb2 (by decide) rfl rfl rfl hl.1 rfl (Nat.le_of_ble_eq_true rfl) dL_isWell_271 ⟨Nat.le_of_ble_eq_true rfl, Nat.le_of_ble_eq_true rfl⟩) hS (fun r_187 M_185 H locs hq_186 hW hS => ?_)
                            obtain ⟨hq_186a, hq_186b⟩ := hq_186
                            rw [hq_186b] at hW
                            rw [hq_186a]
                            rw [show (zf_pe (b + 1) (xr_up M s.heap.size (zw_r (b + 1) M (k29 + 1))) k29 4) = (nI t1) from ((zg_pe (hgr _) (show k29 < 24 by omega) 4).trans p4)]
                            refine lv_if_le (tgt := 281) hx hb dL_isWell_274 (by decide) (fun c_188 => ?_) (fun c_188 => ?_)
                            · exact absurd c_188 (nI_nle pt0 (by omega))
                            · refine lv_iconst (v := (nI 1)) hx hb dL_isWell_277 (by decide) ?_
                              refine lv_goto (tgt := 282) hx hb dL_isWell_278 (by decide) ?_
                              refine lv_istore (lv' := [(9, .int (nI 1)), (7, .int ((xf_sum (fun i => M (b + 1 + 2 * i + 34) 4) k29) + (M (b + 1 + 2 * k29 + 34) 4))), (4, .int ((xf_sum (fun i => M (b + 1 + 2 * i + 34) 9) k29) + (M (b + 1 + 2 * k29 + 34) 9))), (3, .int ((xf_sum (fun i => M (b + 1 + 2 * i + 34) 7) k29) + (M (b + 1 + 2 * k29 + 34) 7))), (1, .int ((xf_sum (fun i => zm_h (M (b + 1 + 2 * i + 34) 5)) k29) + (zm_h (M (b + 1 + 2 * k29 + 34) 5)))), (11, .int (nI 0)), (10, .int (nI k29)), (2, .int (nI 0)), (5, .int (nI 0)), (6, .int (nI 0)), (8, .ref s.heap.size), (0, .ref b)]) hx hb dL_isWell_282 hl (by decide) rfl (fun ls hl => ?_)
                              refine lv_iinc (v := (nI (k29 + 1))) (lv' := [(10, .int (nI (k29 + 1))), (9, .int (nI 1)), (7, .int ((xf_sum (fun i => M (b + 1 + 2 * i + 34) 4) k29) + (M (b + 1 + 2 * k29 + 34) 4))), (4, .int ((xf_sum (fun i => M (b + 1 + 2 * i + 34) 9) k29) + (M (b + 1 + 2 * k29 + 34) 9))), (3, .int ((xf_sum (fun i => M (b + 1 + 2 * i + 34) 7) k29) + (M (b + 1 + 2 * k29 + 34) 7))), (1, .int ((xf_sum (fun i => zm_h (M (b + 1 + 2 * i + 34) 5)) k29) + (zm_h (M (b + 1 + 2 * k29 + 34) 5)))), (11, .int (nI 0)), (2, .int (nI 0)), (5, .int (nI 0)), (6, .int (nI 0)), (8, .ref s.heap.size), (0, .ref b)]) hx hb dL_isWell_284 hl (k := 6) rfl ((nI_1 k29)) (by decide) rfl (fun ls hl => ?_)
                              refine lv_goto (tgt := 29) hx hb dL_isWell_287 (by decide) ?_
                              exact ih29 () _ _ _ ⟨hW, hS, lv_sub hl [0, 7, 8, 9, 5, 4, 3, 2, 10, 1, 11] rfl, trivial⟩
                  · exact absurd c_174 (by decide)
      · obtain ⟨w0, hw0, hza, -⟩ := zs_w1 hz hk29 (Or.inr pw)
        have hpl := zw_pl1 hz hk29 (by rw [pw]; decide)
        refine lv_aload_n hx hb dL_isWell_39 rfl (lv_at hl 10 rfl) ?_
        refine lv_iload hx hb dL_isWell_40 (lv_at hl 0 rfl) ?_
        refine lv_iconst (v := (nI 0)) hx hb dL_isWell_42 (by decide) ?_
        refine xc_i (xr_V (As := [.int (nI k29), .int (nI 0)]) (rest := []) (κ := 16) ⟨hx, hb, hml, hown, hts⟩ (cz_person l O (xr_up M s.heap.size (zw_r (b + 1) M k29)) b tb2 (hzr _) (k := k29) (jj := 0) hk29 (by omega)) (cwV 2 hts gL_isWell_X6_person rfl rfl rfl (by decide +kernel) ⟨Nat.le_of_ble_eq_true rfl, Nat.le_of_ble_eq_true rfl⟩) hK hst hnw hS hW tb2 (by decide) rfl rfl rfl hl.1 rfl (Nat.le_of_ble_eq_true rfl) dL_isWell_43 ⟨Nat.le_of_ble_eq_true rfl, Nat.le_of_ble_eq_true rfl⟩) hS (fun r_191 M_189 H locs hq_190 hW hS => ?_)
        obtain ⟨hq_190a, hq_190b⟩ := hq_190
        rw [hq_190b] at hW
        rw [hq_190a]
        rw [show (zf_pe (b + 1) (xr_up M s.heap.size (zw_r (b + 1) M k29)) k29 0) = (nI 1) from ((zg_pe (hgr _) (show k29 < 24 by omega) 0).trans pw)]
        refine lv_istore (lv' := [(11, .int (nI 1)), (10, .int (nI k29)), (2, .int (nI 0)), (5, .int (nI 0)), (6, .int (nI 0)), (1, .int (xf_sum (fun i => zm_h (M (b + 1 + 2 * i + 34) 5)) k29)), (3, .int (xf_sum (fun i => M (b + 1 + 2 * i + 34) 7) k29)), (4, .int (xf_sum (fun i => M (b + 1 + 2 * i + 34) 9) k29)), (7, .int (xf_sum (fun i => M (b + 1 + 2 * i + 34) 4) k29)), (8, .ref s.heap.size), (9, .int (nI 1)), (0, .ref b)]) hx hb dL_isWell_46 hl (by decide) rfl (fun ls hl => ?_)
        refine lv_aload hx hb dL_isWell_48 (lv_at hl 9 rfl) ?_
        refine lv_iload hx hb dL_isWell_50 (lv_at hl 0 rfl) ?_
        refine lv_dup2_11 hx hb dL_isWell_52 rfl rfl ?_
        refine xg_iald (κ := 104) (n := 4) hx hb hK hW zt_xs (by decide) rfl 1 rfl (by decide) (by decide) dL_isWell_53 ?_
        refine lv_iconst (v := (nI 1)) hx hb dL_isWell_54 (by decide) ?_
        refine lv_iadd hx hb dL_isWell_55 ?_
        refine xg_iast (κ := 104) (n := 4) hx hb hK O hW hS zt_xs (by decide) (fun _ => rfl) (fun _ => trivial) 1 rfl (by decide) (by decide) dL_isWell_56 (fun H locs hW hS => ?_)
        obtain ⟨M_192, eM_192⟩ : ∃ M9, M9 = xu_p (xr_up M s.heap.size (zw_r (b + 1) M k29)) s.heap.size 1 (((xr_up M s.heap.size (zw_r (b + 1) M k29)) s.heap.size 1) + (nI 1)) := ⟨_, rfl⟩
        rw [← eM_192] at hW
        have eZ : M_192 = (xr_up M s.heap.size (zw_r (b + 1) M (k29 + 1))) := by rw [eM_192]; unfold xu_p; rw [xr_s, zx_2]; exact congrArg (xr_up M s.heap.size) (zw_r1 pw (by omega))
        rw [eZ] at hW
        refine lv_iload_n hx hb dL_isWell_57 rfl (lv_at hl 5 rfl) ?_
        refine lv_aload_n hx hb dL_isWell_58 rfl (lv_at hl 11 rfl) ?_
        refine lv_iload hx hb dL_isWell_59 (lv_at hl 1 rfl) ?_
        refine lv_iconst (v := (nI 3)) hx hb dL_isWell_61 (by decide) ?_
        refine xc_i (xr_V (As := [.int (nI k29), .int (nI 3)]) (rest := [.int (xf_sum (fun i => zm_h (M (b + 1 + 2 * i + 34) 5)) k29)]) (κ := 16) ⟨hx, hb, hml, hown, hts⟩ (cz_person l O (xr_up M s.heap.size (zw_r (b + 1) M (k29 + 1))) b tb2 (hzr _) (k := k29) (jj := 3) hk29 (by omega)) (cwV 2 hts gL_isWell_X6_person rfl rfl rfl (by decide +kernel) ⟨Nat.le_of_ble_eq_true rfl, Nat.le_of_ble_eq_true rfl⟩) hK hst hnw hS hW tb2 (by decide) rfl rfl rfl hl.1 rfl (Nat.le_of_ble_eq_true rfl) dL_isWell_62 ⟨Nat.le_of_ble_eq_true rfl, Nat.le_of_ble_eq_true rfl⟩) hS (fun r_195 M_193 H locs hq_194 hW hS => ?_)
        obtain ⟨hq_194a, hq_194b⟩ := hq_194
        rw [hq_194b] at hW
        rw [hq_194a]
        rw [show (zf_pe (b + 1) (xr_up M s.heap.size (zw_r (b + 1) M (k29 + 1))) k29 3) = (zm_h (M (b + 1 + 2 * k29 + 34) 5)) from ((zg_pe (hgr _) (show k29 < 24 by omega) 3).trans rfl)]
        refine lv_iadd hx hb dL_isWell_65 ?_
        refine lv_istore_n (lv' := [(1, .int ((xf_sum (fun i => zm_h (M (b + 1 + 2 * i + 34) 5)) k29) + (zm_h (M (b + 1 + 2 * k29 + 34) 5)))), (11, .int (nI 1)), (10, .int (nI k29)), (2, .int (nI 0)), (5, .int (nI 0)), (6, .int (nI 0)), (3, .int (xf_sum (fun i => M (b + 1 + 2 * i + 34) 7) k29)), (4, .int (xf_sum (fun i => M (b + 1 + 2 * i + 34) 9) k29)), (7, .int (xf_sum (fun i => M (b + 1 + 2 * i + 34) 4) k29)), (8, .ref s.heap.size), (9, .int (nI 1)), (0, .ref b)]) hx hb dL_isWell_66 rfl hl (by decide) rfl (fun ls hl => ?_)
        refine lv_iload_n hx hb dL_isWell_67 rfl (lv_at hl 6 rfl) ?_
        refine lv_aload_n hx hb dL_isWell_68 rfl (lv_at hl 11 rfl) ?_
        refine lv_iload hx hb dL_isWell_69 (lv_at hl 2 rfl) ?_
        refine lv_bipush (v := (nI 6)) hx hb dL_isWell_71 (by decide) ?_
        refine xc_i (xr_V (As := [.int (nI k29), .int (nI 6)]) (rest := [.int (xf_sum (fun i => M (b + 1 + 2 * i + 34) 7) k29)]) (κ := 16) ⟨hx, hb, hml, hown, hts⟩ (cz_person l O (xr_up M s.heap.size (zw_r (b + 1) M (k29 + 1))) b tb2 (hzr _) (k := k29) (jj := 6) hk29 (by omega)) (cwV 2 hts gL_isWell_X6_person rfl rfl rfl (by decide +kernel) ⟨Nat.le_of_ble_eq_true rfl, Nat.le_of_ble_eq_true rfl⟩) hK hst hnw hS hW tb2 (by decide) rfl rfl rfl hl.1 rfl (Nat.le_of_ble_eq_true rfl) dL_isWell_73 ⟨Nat.le_of_ble_eq_true rfl, Nat.le_of_ble_eq_true rfl⟩) hS (fun r_198 M_196 H locs hq_197 hW hS => ?_)
        obtain ⟨hq_197a, hq_197b⟩ := hq_197
        rw [hq_197b] at hW
        rw [hq_197a]
        rw [show (zf_pe (b + 1) (xr_up M s.heap.size (zw_r (b + 1) M (k29 + 1))) k29 6) = (M (b + 1 + 2 * k29 + 34) 7) from ((zg_pe (hgr _) (show k29 < 24 by omega) 6).trans rfl)]
        refine lv_iadd hx hb dL_isWell_76 ?_
        refine lv_istore_n (lv' := [(3, .int ((xf_sum (fun i => M (b + 1 + 2 * i + 34) 7) k29) + (M (b + 1 + 2 * k29 + 34) 7))), (1, .int ((xf_sum (fun i => zm_h (M (b + 1 + 2 * i + 34) 5)) k29) + (zm_h (M (b + 1 + 2 * k29 + 34) 5)))), (11, .int (nI 1)), (10, .int (nI k29)), (2, .int (nI 0)), (5, .int (nI 0)), (6, .int (nI 0)), (4, .int (xf_sum (fun i => M (b + 1 + 2 * i + 34) 9) k29)), (7, .int (xf_sum (fun i => M (b + 1 + 2 * i + 34) 4) k29)), (8, .ref s.heap.size), (9, .int (nI 1)), (0, .ref b)]) hx hb dL_isWell_77 rfl hl (by decide) rfl (fun ls hl => ?_)
        refine lv_iload hx hb dL_isWell_78 (lv_at hl 7 rfl) ?_
        refine lv_aload_n hx hb dL_isWell_80 rfl (lv_at hl 11 rfl) ?_
        refine lv_iload hx hb dL_isWell_81 (lv_at hl 3 rfl) ?_
        refine lv_bipush (v := (nI 7)) hx hb dL_isWell_83 (by decide) ?_
        refine xc_i (xr_V (As := [.int (nI k29), .int (nI 7)]) (rest := [.int (xf_sum (fun i => M (b + 1 + 2 * i + 34) 9) k29)]) (κ := 16) ⟨hx, hb, hml, hown, hts⟩ (cz_person l O (xr_up M s.heap.size (zw_r (b + 1) M (k29 + 1))) b tb2 (hzr _) (k := k29) (jj := 7) hk29 (by omega)) (cwV 2 hts gL_isWell_X6_person rfl rfl rfl (by decide +kernel) ⟨Nat.le_of_ble_eq_true rfl, Nat.le_of_ble_eq_true rfl⟩) hK hst hnw hS hW tb2 (by decide) rfl rfl rfl hl.1 rfl (Nat.le_of_ble_eq_true rfl) dL_isWell_85 ⟨Nat.le_of_ble_eq_true rfl, Nat.le_of_ble_eq_true rfl⟩) hS (fun r_201 M_199 H locs hq_200 hW hS => ?_)
        obtain ⟨hq_200a, hq_200b⟩ := hq_200
        rw [hq_200b] at hW
        rw [hq_200a]
        rw [show (zf_pe (b + 1) (xr_up M s.heap.size (zw_r (b + 1) M (k29 + 1))) k29 7) = (M (b + 1 + 2 * k29 + 34) 9) from ((zg_pe (hgr _) (show k29 < 24 by omega) 7).trans rfl)]
        refine lv_iadd hx hb dL_isWell_88 ?_
        refine lv_istore (lv' := [(4, .int ((xf_sum (fun i => M (b + 1 + 2 * i + 34) 9) k29) + (M (b + 1 + 2 * k29 + 34) 9))), (3, .int ((xf_sum (fun i => M (b + 1 + 2 * i + 34) 7) k29) + (M (b + 1 + 2 * k29 + 34) 7))), (1, .int ((xf_sum (fun i => zm_h (M (b + 1 + 2 * i + 34) 5)) k29) + (zm_h (M (b + 1 + 2 * k29 + 34) 5)))), (11, .int (nI 1)), (10, .int (nI k29)), (2, .int (nI 0)), (5, .int (nI 0)), (6, .int (nI 0)), (7, .int (xf_sum (fun i => M (b + 1 + 2 * i + 34) 4) k29)), (8, .ref s.heap.size), (9, .int (nI 1)), (0, .ref b)]) hx hb dL_isWell_89 hl (by decide) rfl (fun ls hl => ?_)
        refine lv_iload hx hb dL_isWell_91 (lv_at hl 8 rfl) ?_
        refine lv_aload_n hx hb dL_isWell_93 rfl (lv_at hl 11 rfl) ?_
        refine lv_iload hx hb dL_isWell_94 (lv_at hl 4 rfl) ?_
        refine lv_iconst (v := (nI 4)) hx hb dL_isWell_96 (by decide) ?_
        refine xc_i (xr_V (As := [.int (nI k29), .int (nI 4)]) (rest := [.int (xf_sum (fun i => M (b + 1 + 2 * i + 34) 4) k29)]) (κ := 16) ⟨hx, hb, hml, hown, hts⟩ (cz_person l O (xr_up M s.heap.size (zw_r (b + 1) M (k29 + 1))) b tb2 (hzr _) (k := k29) (jj := 4) hk29 (by omega)) (cwV 2 hts gL_isWell_X6_person rfl rfl rfl (by decide +kernel) ⟨Nat.le_of_ble_eq_true rfl, Nat.le_of_ble_eq_true rfl⟩) hK hst hnw hS hW tb2 (by decide) rfl rfl rfl hl.1 rfl (Nat.le_of_ble_eq_true rfl) dL_isWell_97 ⟨Nat.le_of_ble_eq_true rfl, Nat.le_of_ble_eq_true rfl⟩) hS (fun r_204 M_202 H locs hq_203 hW hS => ?_)
        obtain ⟨hq_203a, hq_203b⟩ := hq_203
        rw [hq_203b] at hW
        rw [hq_203a]
        rw [show (zf_pe (b + 1) (xr_up M s.heap.size (zw_r (b + 1) M (k29 + 1))) k29 4) = (M (b + 1 + 2 * k29 + 34) 4) from ((zg_pe (hgr _) (show k29 < 24 by omega) 4).trans rfl)]
        refine lv_iadd hx hb dL_isWell_100 ?_
        refine lv_istore (lv' := [(7, .int ((xf_sum (fun i => M (b + 1 + 2 * i + 34) 4) k29) + (M (b + 1 + 2 * k29 + 34) 4))), (4, .int ((xf_sum (fun i => M (b + 1 + 2 * i + 34) 9) k29) + (M (b + 1 + 2 * k29 + 34) 9))), (3, .int ((xf_sum (fun i => M (b + 1 + 2 * i + 34) 7) k29) + (M (b + 1 + 2 * k29 + 34) 7))), (1, .int ((xf_sum (fun i => zm_h (M (b + 1 + 2 * i + 34) 5)) k29) + (zm_h (M (b + 1 + 2 * k29 + 34) 5)))), (11, .int (nI 1)), (10, .int (nI k29)), (2, .int (nI 0)), (5, .int (nI 0)), (6, .int (nI 0)), (8, .ref s.heap.size), (9, .int (nI 1)), (0, .ref b)]) hx hb dL_isWell_101 hl (by decide) rfl (fun ls hl => ?_)
        refine lv_iload hx hb dL_isWell_103 (lv_at hl 10 rfl) ?_
        refine lv_if_eq (tgt := 281) hx hb dL_isWell_105 (by decide) (fun c_205 => ?_) (fun c_205 => ?_)
        · exact absurd c_205 (by decide)
        · refine lv_iload hx hb dL_isWell_108 (lv_at hl 4 rfl) ?_
          refine lv_iconst (v := (nI 2)) hx hb dL_isWell_110 (by decide) ?_
          refine lv_icmp_ge (tgt := 157) hx hb dL_isWell_111 (by decide) (fun c_206 => ?_) (fun c_206 => ?_)
          · exact absurd c_206 (nI_ge (by omega) (by omega))
          · refine lv_aload_n hx hb dL_isWell_114 rfl (lv_at hl 11 rfl) ?_
            refine lv_iload hx hb dL_isWell_115 (lv_at hl 5 rfl) ?_
            refine lv_iconst (v := (nI 4)) hx hb dL_isWell_117 (by decide) ?_
            refine xc_i (xr_V (As := [.int (nI k29), .int (nI 4)]) (rest := []) (κ := 16) ⟨hx, hb, hml, hown, hts⟩ (cz_person l O (xr_up M s.heap.size (zw_r (b + 1) M (k29 + 1))) b tb2 (hzr _) (k := k29) (jj := 4) hk29 (by omega)) (cwV 2 hts gL_isWell_X6_person rfl rfl rfl (by decide +kernel) ⟨Nat.le_of_ble_eq_true rfl, Nat.le_of_ble_eq_true rfl⟩) hK hst hnw hS hW tb2 (by decide) rfl rfl rfl hl.1 rfl (Nat.le_of_ble_eq_true rfl) dL_isWell_118 ⟨Nat.le_of_ble_eq_true rfl, Nat.le_of_ble_eq_true rfl⟩) hS (fun r_209 M_207 H locs hq_208 hW hS => ?_)
            obtain ⟨hq_208a, hq_208b⟩ := hq_208
            rw [hq_208b] at hW
            rw [hq_208a]
            rw [show (zf_pe (b + 1) (xr_up M s.heap.size (zw_r (b + 1) M (k29 + 1))) k29 4) = (nI t1) from ((zg_pe (hgr _) (show k29 < 24 by omega) 4).trans p4)]
            refine lv_aload_n hx hb dL_isWell_121 rfl (lv_at hl 11 rfl) ?_
            refine lv_iload hx hb dL_isWell_122 (lv_at hl 5 rfl) ?_
            refine lv_iconst (v := (nI 5)) hx hb dL_isWell_124 (by decide) ?_
            refine xc_i (xr_V (As := [.int (nI k29), .int (nI 5)]) (rest := [.int (nI t1)]) (κ := 16) ⟨hx, hb, hml, hown, hts⟩ (cz_person l O (xr_up M s.heap.size (zw_r (b + 1) M (k29 + 1))) b tb2 (hzr _) (k := k29) (jj := 5) hk29 (by omega)) (cwV 2 hts gL_isWell_X6_person rfl rfl rfl (by decide +kernel) ⟨Nat.le_of_ble_eq_true rfl, Nat.le_of_ble_eq_true rfl⟩) hK hst hnw hS hW tb2 (by decide) rfl rfl rfl hl.1 rfl (Nat.le_of_ble_eq_true rfl) dL_isWell_125 ⟨Nat.le_of_ble_eq_true rfl, Nat.le_of_ble_eq_true rfl⟩) hS (fun r_212 M_210 H locs hq_211 hW hS => ?_)
            obtain ⟨hq_211a, hq_211b⟩ := hq_211
            rw [hq_211b] at hW
            rw [hq_211a]
            rw [show (zf_pe (b + 1) (xr_up M s.heap.size (zw_r (b + 1) M (k29 + 1))) k29 5) = (nI m1) from ((zg_pe (hgr _) (show k29 < 24 by omega) 5).trans p3)]
            refine lv_icmp_ge (tgt := 281) hx hb dL_isWell_128 (by decide) (fun c_213 => ?_) (fun c_213 => ?_)
            · exact absurd c_213 (nI_ge pt (by omega))
            · refine lv_aload_n hx hb dL_isWell_131 rfl (lv_at hl 11 rfl) ?_
              refine lv_iload hx hb dL_isWell_132 (lv_at hl 5 rfl) ?_
              refine lv_iconst (v := (nI 1)) hx hb dL_isWell_134 (by decide) ?_
              refine xc_i (xr_V (As := [.int (nI k29), .int (nI 1)]) (rest := []) (κ := 16) ⟨hx, hb, hml, hown, hts⟩ (cz_person l O (xr_up M s.heap.size (zw_r (b + 1) M (k29 + 1))) b tb2 (hzr _) (k := k29) (jj := 1) hk29 (by omega)) (cwV 2 hts gL_isWell_X6_person rfl rfl rfl (by decide +kernel) ⟨Nat.le_of_ble_eq_true rfl, Nat.le_of_ble_eq_true rfl⟩) hK hst hnw hS hW tb2 (by decide) rfl rfl rfl hl.1 rfl (Nat.le_of_ble_eq_true rfl) dL_isWell_135 ⟨Nat.le_of_ble_eq_true rfl, Nat.le_of_ble_eq_true rfl⟩) hS (fun r_216 M_214 H locs hq_215 hW hS => ?_)
              obtain ⟨hq_215a, hq_215b⟩ := hq_215
              rw [hq_215b] at hW
              rw [hq_215a]
              rw [show (zf_pe (b + 1) (xr_up M s.heap.size (zw_r (b + 1) M (k29 + 1))) k29 1) = (nI w0) from ((zg_pe (hgr _) (show k29 < 24 by omega) 1).trans hza)]
              refine lv_if_lt (tgt := 281) hx hb dL_isWell_138 (by decide) (fun c_217 => ?_) (fun c_217 => ?_)
              · exact absurd c_217 (nI_pos (by omega))
              · refine lv_aload_n hx hb dL_isWell_141 rfl (lv_at hl 11 rfl) ?_
                refine lv_iload hx hb dL_isWell_142 (lv_at hl 5 rfl) ?_
                refine lv_bipush (v := (nI 8)) hx hb dL_isWell_144 (by decide) ?_
                refine xc_i (xr_V (As := [.int (nI k29), .int (nI 8)]) (rest := []) (κ := 16) ⟨hx, hb, hml, hown, hts⟩ (cz_person l O (xr_up M s.heap.size (zw_r (b + 1) M (k29 + 1))) b tb2 (hzr _) (k := k29) (jj := 8) hk29 (by omega)) (cwV 2 hts gL_isWell_X6_person rfl rfl rfl (by decide +kernel) ⟨Nat.le_of_ble_eq_true rfl, Nat.le_of_ble_eq_true rfl⟩) hK hst hnw hS hW tb2 (by decide) rfl rfl rfl hl.1 rfl (Nat.le_of_ble_eq_true rfl) dL_isWell_146 ⟨Nat.le_of_ble_eq_true rfl, Nat.le_of_ble_eq_true rfl⟩) hS (fun r_220 M_218 H locs hq_219 hW hS => ?_)
                obtain ⟨hq_219a, hq_219b⟩ := hq_219
                rw [hq_219b] at hW
                rw [hq_219a]
                rw [show (zf_pe (b + 1) (xr_up M s.heap.size (zw_r (b + 1) M (k29 + 1))) k29 8) = (-6) from ((zg_pe (hgr _) (show k29 < 24 by omega) 8).trans p10)]
                refine lv_bipush (v := (-6)) hx hb dL_isWell_149 (by decide) ?_
                refine lv_icmp_ne (tgt := 281) hx hb dL_isWell_151 (by decide) (fun c_221 => ?_) (fun c_221 => ?_)
                · exact absurd c_221 (fun z => z rfl)
                · refine lv_goto (tgt := 206) hx hb dL_isWell_154 (by decide) ?_
                  refine lv_iload hx hb dL_isWell_206 (lv_at hl 4 rfl) ?_
                  refine lv_iconst (v := (nI 2)) hx hb dL_isWell_208 (by decide) ?_
                  refine lv_icmp_ne (tgt := 229) hx hb dL_isWell_209 (by decide) (fun c_222 => ?_) (fun c_222 => ?_)
                  · refine lv_iload hx hb dL_isWell_229 (lv_at hl 4 rfl) ?_
                    refine lv_if_ne (tgt := 238) hx hb dL_isWell_231 (by decide) (fun c_223 => ?_) (fun c_223 => ?_)
                    · refine lv_iconst (v := (nI 0)) hx hb dL_isWell_238 (by decide) ?_
                      refine lv_aload_n hx hb dL_isWell_239 rfl (lv_at hl 11 rfl) ?_
                      refine lv_iload hx hb dL_isWell_240 (lv_at hl 5 rfl) ?_
                      refine lv_iconst (v := (nI 2)) hx hb dL_isWell_242 (by decide) ?_
                      refine xc_i (xr_V (As := [.int (nI k29), .int (nI 2)]) (rest := [.int (nI 0)]) (κ := 16) ⟨hx, hb, hml, hown, hts⟩ (cz_person l O (xr_up M s.heap.size (zw_r (b + 1) M (k29 + 1))) b tb2 (hzr _) (k := k29) (jj := 2) hk29 (by omega)) (cwV 2 hts gL_isWell_X6_person rfl rfl rfl (by decide +kernel) ⟨Nat.le_of_ble_eq_true rfl, Nat.le_of_ble_eq_true rfl⟩) hK hst hnw hS hW tb2 (by decide) rfl rfl rfl hl.1 rfl (Nat.le_of_ble_eq_true rfl) dL_isWell_243 ⟨Nat.le_of_ble_eq_true rfl, Nat.le_of_ble_eq_true rfl⟩) hS (fun r_226 M_224 H locs hq_225 hW hS => ?_)
                      obtain ⟨hq_225a, hq_225b⟩ := hq_225
                      rw [hq_225b] at hW
                      rw [hq_225a]
                      rw [show (zf_pe (b + 1) (xr_up M s.heap.size (zw_r (b + 1) M (k29 + 1))) k29 2) = (-6) from ((zg_pe (hgr _) (show k29 < 24 by omega) 2).trans hpl)]
                      refine lv_if_lt (tgt := 253) hx hb dL_isWell_246 (by decide) (fun c_227 => ?_) (fun c_227 => ?_)
                      · refine lv_iconst (v := (nI 0)) hx hb dL_isWell_253 (by decide) ?_
                        refine lv_icmp_ne (tgt := 281) hx hb dL_isWell_254 (by decide) (fun c_228 => ?_) (fun c_228 => ?_)
                        · exact absurd c_228 (fun z => z rfl)
                        · refine lv_aload_n hx hb dL_isWell_257 rfl (lv_at hl 11 rfl) ?_
                          refine lv_iload hx hb dL_isWell_258 (lv_at hl 5 rfl) ?_
                          refine lv_iconst (v := (nI 3)) hx hb dL_isWell_260 (by decide) ?_
                          refine xc_i (xr_V (As := [.int (nI k29), .int (nI 3)]) (rest := []) (κ := 16) ⟨hx, hb, hml, hown, hts⟩ (cz_person l O (xr_up M s.heap.size (zw_r (b + 1) M (k29 + 1))) b tb2 (hzr _) (k := k29) (jj := 3) hk29 (by omega)) (cwV 2 hts gL_isWell_X6_person rfl rfl rfl (by decide +kernel) ⟨Nat.le_of_ble_eq_true rfl, Nat.le_of_ble_eq_true rfl⟩) hK hst hnw hS hW tb2 (by decide) rfl rfl rfl hl.1 rfl (Nat.le_of_ble_eq_true rfl) dL_isWell_261 ⟨Nat.le_of_ble_eq_true rfl, Nat.le_of_ble_eq_true rfl⟩) hS (fun r_231 M_229 H locs hq_230 hW hS => ?_)
                          obtain ⟨hq_230a, hq_230b⟩ := hq_230
                          rw [hq_230b] at hW
                          rw [hq_230a]
                          rw [show (zf_pe (b + 1) (xr_up M s.heap.size (zw_r (b + 1) M (k29 + 1))) k29 3) = (nI 0) from ((zg_pe (hgr _) (show k29 < 24 by omega) 3).trans (zh_0 ph))]
                          refine lv_if_eq (tgt := 277) hx hb dL_isWell_264 (by decide) (fun c_232 => ?_) (fun c_232 => ?_)
                          · refine lv_iconst (v := (nI 1)) hx hb dL_isWell_277 (by decide) ?_
                            refine lv_goto (tgt := 282) hx hb dL_isWell_278 (by decide) ?_
                            refine lv_istore (lv' := [(9, .int (nI 1)), (7, .int ((xf_sum (fun i => M (b + 1 + 2 * i + 34) 4) k29) + (M (b + 1 + 2 * k29 + 34) 4))), (4, .int ((xf_sum (fun i => M (b + 1 + 2 * i + 34) 9) k29) + (M (b + 1 + 2 * k29 + 34) 9))), (3, .int ((xf_sum (fun i => M (b + 1 + 2 * i + 34) 7) k29) + (M (b + 1 + 2 * k29 + 34) 7))), (1, .int ((xf_sum (fun i => zm_h (M (b + 1 + 2 * i + 34) 5)) k29) + (zm_h (M (b + 1 + 2 * k29 + 34) 5)))), (11, .int (nI 1)), (10, .int (nI k29)), (2, .int (nI 0)), (5, .int (nI 0)), (6, .int (nI 0)), (8, .ref s.heap.size), (0, .ref b)]) hx hb dL_isWell_282 hl (by decide) rfl (fun ls hl => ?_)
                            refine lv_iinc (v := (nI (k29 + 1))) (lv' := [(10, .int (nI (k29 + 1))), (9, .int (nI 1)), (7, .int ((xf_sum (fun i => M (b + 1 + 2 * i + 34) 4) k29) + (M (b + 1 + 2 * k29 + 34) 4))), (4, .int ((xf_sum (fun i => M (b + 1 + 2 * i + 34) 9) k29) + (M (b + 1 + 2 * k29 + 34) 9))), (3, .int ((xf_sum (fun i => M (b + 1 + 2 * i + 34) 7) k29) + (M (b + 1 + 2 * k29 + 34) 7))), (1, .int ((xf_sum (fun i => zm_h (M (b + 1 + 2 * i + 34) 5)) k29) + (zm_h (M (b + 1 + 2 * k29 + 34) 5)))), (11, .int (nI 1)), (2, .int (nI 0)), (5, .int (nI 0)), (6, .int (nI 0)), (8, .ref s.heap.size), (0, .ref b)]) hx hb dL_isWell_284 hl (k := 6) rfl ((nI_1 k29)) (by decide) rfl (fun ls hl => ?_)
                            refine lv_goto (tgt := 29) hx hb dL_isWell_287 (by decide) ?_
                            exact ih29 () _ _ _ ⟨hW, hS, lv_sub hl [0, 7, 8, 9, 5, 4, 3, 2, 10, 1, 11] rfl, trivial⟩
                          · exact absurd rfl c_232
                      · exact absurd (by decide) c_227
                    · exact absurd c_223 (by decide)
                  · exact absurd c_222 (by decide)
      · obtain ⟨w0, hw0, hza, -⟩ := zs_w1 hz hk29 (Or.inr pw)
        have hpl := zw_pl1 hz hk29 (by rw [pw]; decide)
        refine lv_aload_n hx hb dL_isWell_39 rfl (lv_at hl 10 rfl) ?_
        refine lv_iload hx hb dL_isWell_40 (lv_at hl 0 rfl) ?_
        refine lv_iconst (v := (nI 0)) hx hb dL_isWell_42 (by decide) ?_
        refine xc_i (xr_V (As := [.int (nI k29), .int (nI 0)]) (rest := []) (κ := 16) ⟨hx, hb, hml, hown, hts⟩ (cz_person l O (xr_up M s.heap.size (zw_r (b + 1) M k29)) b tb2 (hzr _) (k := k29) (jj := 0) hk29 (by omega)) (cwV 2 hts gL_isWell_X6_person rfl rfl rfl (by decide +kernel) ⟨Nat.le_of_ble_eq_true rfl, Nat.le_of_ble_eq_true rfl⟩) hK hst hnw hS hW tb2 (by decide) rfl rfl rfl hl.1 rfl (Nat.le_of_ble_eq_true rfl) dL_isWell_43 ⟨Nat.le_of_ble_eq_true rfl, Nat.le_of_ble_eq_true rfl⟩) hS (fun r_235 M_233 H locs hq_234 hW hS => ?_)
        obtain ⟨hq_234a, hq_234b⟩ := hq_234
        rw [hq_234b] at hW
        rw [hq_234a]
        rw [show (zf_pe (b + 1) (xr_up M s.heap.size (zw_r (b + 1) M k29)) k29 0) = (nI 1) from ((zg_pe (hgr _) (show k29 < 24 by omega) 0).trans pw)]
        refine lv_istore (lv' := [(11, .int (nI 1)), (10, .int (nI k29)), (2, .int (nI 0)), (5, .int (nI 0)), (6, .int (nI 0)), (1, .int (xf_sum (fun i => zm_h (M (b + 1 + 2 * i + 34) 5)) k29)), (3, .int (xf_sum (fun i => M (b + 1 + 2 * i + 34) 7) k29)), (4, .int (xf_sum (fun i => M (b + 1 + 2 * i + 34) 9) k29)), (7, .int (xf_sum (fun i => M (b + 1 + 2 * i + 34) 4) k29)), (8, .ref s.heap.size), (9, .int (nI 1)), (0, .ref b)]) hx hb dL_isWell_46 hl (by decide) rfl (fun ls hl => ?_)
        refine lv_aload hx hb dL_isWell_48 (lv_at hl 9 rfl) ?_
        refine lv_iload hx hb dL_isWell_50 (lv_at hl 0 rfl) ?_
        refine lv_dup2_11 hx hb dL_isWell_52 rfl rfl ?_
        refine xg_iald (κ := 104) (n := 4) hx hb hK hW zt_xs (by decide) rfl 1 rfl (by decide) (by decide) dL_isWell_53 ?_
        refine lv_iconst (v := (nI 1)) hx hb dL_isWell_54 (by decide) ?_
        refine lv_iadd hx hb dL_isWell_55 ?_
        refine xg_iast (κ := 104) (n := 4) hx hb hK O hW hS zt_xs (by decide) (fun _ => rfl) (fun _ => trivial) 1 rfl (by decide) (by decide) dL_isWell_56 (fun H locs hW hS => ?_)
        obtain ⟨M_236, eM_236⟩ : ∃ M9, M9 = xu_p (xr_up M s.heap.size (zw_r (b + 1) M k29)) s.heap.size 1 (((xr_up M s.heap.size (zw_r (b + 1) M k29)) s.heap.size 1) + (nI 1)) := ⟨_, rfl⟩
        rw [← eM_236] at hW
        have eZ : M_236 = (xr_up M s.heap.size (zw_r (b + 1) M (k29 + 1))) := by rw [eM_236]; unfold xu_p; rw [xr_s, zx_2]; exact congrArg (xr_up M s.heap.size) (zw_r1 pw (by omega))
        rw [eZ] at hW
        refine lv_iload_n hx hb dL_isWell_57 rfl (lv_at hl 5 rfl) ?_
        refine lv_aload_n hx hb dL_isWell_58 rfl (lv_at hl 11 rfl) ?_
        refine lv_iload hx hb dL_isWell_59 (lv_at hl 1 rfl) ?_
        refine lv_iconst (v := (nI 3)) hx hb dL_isWell_61 (by decide) ?_
        refine xc_i (xr_V (As := [.int (nI k29), .int (nI 3)]) (rest := [.int (xf_sum (fun i => zm_h (M (b + 1 + 2 * i + 34) 5)) k29)]) (κ := 16) ⟨hx, hb, hml, hown, hts⟩ (cz_person l O (xr_up M s.heap.size (zw_r (b + 1) M (k29 + 1))) b tb2 (hzr _) (k := k29) (jj := 3) hk29 (by omega)) (cwV 2 hts gL_isWell_X6_person rfl rfl rfl (by decide +kernel) ⟨Nat.le_of_ble_eq_true rfl, Nat.le_of_ble_eq_true rfl⟩) hK hst hnw hS hW tb2 (by decide) rfl rfl rfl hl.1 rfl (Nat.le_of_ble_eq_true rfl) dL_isWell_62 ⟨Nat.le_of_ble_eq_true rfl, Nat.le_of_ble_eq_true rfl⟩) hS (fun r_239 M_237 H locs hq_238 hW hS => ?_)
        obtain ⟨hq_238a, hq_238b⟩ := hq_238
        rw [hq_238b] at hW
        rw [hq_238a]
        rw [show (zf_pe (b + 1) (xr_up M s.heap.size (zw_r (b + 1) M (k29 + 1))) k29 3) = (zm_h (M (b + 1 + 2 * k29 + 34) 5)) from ((zg_pe (hgr _) (show k29 < 24 by omega) 3).trans rfl)]
        refine lv_iadd hx hb dL_isWell_65 ?_
        refine lv_istore_n (lv' := [(1, .int ((xf_sum (fun i => zm_h (M (b + 1 + 2 * i + 34) 5)) k29) + (zm_h (M (b + 1 + 2 * k29 + 34) 5)))), (11, .int (nI 1)), (10, .int (nI k29)), (2, .int (nI 0)), (5, .int (nI 0)), (6, .int (nI 0)), (3, .int (xf_sum (fun i => M (b + 1 + 2 * i + 34) 7) k29)), (4, .int (xf_sum (fun i => M (b + 1 + 2 * i + 34) 9) k29)), (7, .int (xf_sum (fun i => M (b + 1 + 2 * i + 34) 4) k29)), (8, .ref s.heap.size), (9, .int (nI 1)), (0, .ref b)]) hx hb dL_isWell_66 rfl hl (by decide) rfl (fun ls hl => ?_)
        refine lv_iload_n hx hb dL_isWell_67 rfl (lv_at hl 6 rfl) ?_
        refine lv_aload_n hx hb dL_isWell_68 rfl (lv_at hl 11 rfl) ?_
        refine lv_iload hx hb dL_isWell_69 (lv_at hl 2 rfl) ?_
        refine lv_bipush (v := (nI 6)) hx hb dL_isWell_71 (by decide) ?_
        refine xc_i (xr_V (As := [.int (nI k29), .int (nI 6)]) (rest := [.int (xf_sum (fun i => M (b + 1 + 2 * i + 34) 7) k29)]) (κ := 16) ⟨hx, hb, hml, hown, hts⟩ (cz_person l O (xr_up M s.heap.size (zw_r (b + 1) M (k29 + 1))) b tb2 (hzr _) (k := k29) (jj := 6) hk29 (by omega)) (cwV 2 hts gL_isWell_X6_person rfl rfl rfl (by decide +kernel) ⟨Nat.le_of_ble_eq_true rfl, Nat.le_of_ble_eq_true rfl⟩) hK hst hnw hS hW tb2 (by decide) rfl rfl rfl hl.1 rfl (Nat.le_of_ble_eq_true rfl) dL_isWell_73 ⟨Nat.le_of_ble_eq_true rfl, Nat.le_of_ble_eq_true rfl⟩) hS (fun r_242 M_240 H locs hq_241 hW hS => ?_)
        obtain ⟨hq_241a, hq_241b⟩ := hq_241
        rw [hq_241b] at hW
        rw [hq_241a]
        rw [show (zf_pe (b + 1) (xr_up M s.heap.size (zw_r (b + 1) M (k29 + 1))) k29 6) = (M (b + 1 + 2 * k29 + 34) 7) from ((zg_pe (hgr _) (show k29 < 24 by omega) 6).trans rfl)]
        refine lv_iadd hx hb dL_isWell_76 ?_
        refine lv_istore_n (lv' := [(3, .int ((xf_sum (fun i => M (b + 1 + 2 * i + 34) 7) k29) + (M (b + 1 + 2 * k29 + 34) 7))), (1, .int ((xf_sum (fun i => zm_h (M (b + 1 + 2 * i + 34) 5)) k29) + (zm_h (M (b + 1 + 2 * k29 + 34) 5)))), (11, .int (nI 1)), (10, .int (nI k29)), (2, .int (nI 0)), (5, .int (nI 0)), (6, .int (nI 0)), (4, .int (xf_sum (fun i => M (b + 1 + 2 * i + 34) 9) k29)), (7, .int (xf_sum (fun i => M (b + 1 + 2 * i + 34) 4) k29)), (8, .ref s.heap.size), (9, .int (nI 1)), (0, .ref b)]) hx hb dL_isWell_77 rfl hl (by decide) rfl (fun ls hl => ?_)
        refine lv_iload hx hb dL_isWell_78 (lv_at hl 7 rfl) ?_
        refine lv_aload_n hx hb dL_isWell_80 rfl (lv_at hl 11 rfl) ?_
        refine lv_iload hx hb dL_isWell_81 (lv_at hl 3 rfl) ?_
        refine lv_bipush (v := (nI 7)) hx hb dL_isWell_83 (by decide) ?_
        refine xc_i (xr_V (As := [.int (nI k29), .int (nI 7)]) (rest := [.int (xf_sum (fun i => M (b + 1 + 2 * i + 34) 9) k29)]) (κ := 16) ⟨hx, hb, hml, hown, hts⟩ (cz_person l O (xr_up M s.heap.size (zw_r (b + 1) M (k29 + 1))) b tb2 (hzr _) (k := k29) (jj := 7) hk29 (by omega)) (cwV 2 hts gL_isWell_X6_person rfl rfl rfl (by decide +kernel) ⟨Nat.le_of_ble_eq_true rfl, Nat.le_of_ble_eq_true rfl⟩) hK hst hnw hS hW tb2 (by decide) rfl rfl rfl hl.1 rfl (Nat.le_of_ble_eq_true rfl) dL_isWell_85 ⟨Nat.le_of_ble_eq_true rfl, Nat.le_of_ble_eq_true rfl⟩) hS (fun r_245 M_243 H locs hq_244 hW hS => ?_)
        obtain ⟨hq_244a, hq_244b⟩ := hq_244
        rw [hq_244b] at hW
        rw [hq_244a]
        rw [show (zf_pe (b + 1) (xr_up M s.heap.size (zw_r (b + 1) M (k29 + 1))) k29 7) = (M (b + 1 + 2 * k29 + 34) 9) from ((zg_pe (hgr _) (show k29 < 24 by omega) 7).trans rfl)]
        refine lv_iadd hx hb dL_isWell_88 ?_
        refine lv_istore (lv' := [(4, .int ((xf_sum (fun i => M (b + 1 + 2 * i + 34) 9) k29) + (M (b + 1 + 2 * k29 + 34) 9))), (3, .int ((xf_sum (fun i => M (b + 1 + 2 * i + 34) 7) k29) + (M (b + 1 + 2 * k29 + 34) 7))), (1, .int ((xf_sum (fun i => zm_h (M (b + 1 + 2 * i + 34) 5)) k29) + (zm_h (M (b + 1 + 2 * k29 + 34) 5)))), (11, .int (nI 1)), (10, .int (nI k29)), (2, .int (nI 0)), (5, .int (nI 0)), (6, .int (nI 0)), (7, .int (xf_sum (fun i => M (b + 1 + 2 * i + 34) 4) k29)), (8, .ref s.heap.size), (9, .int (nI 1)), (0, .ref b)]) hx hb dL_isWell_89 hl (by decide) rfl (fun ls hl => ?_)
        refine lv_iload hx hb dL_isWell_91 (lv_at hl 8 rfl) ?_
        refine lv_aload_n hx hb dL_isWell_93 rfl (lv_at hl 11 rfl) ?_
        refine lv_iload hx hb dL_isWell_94 (lv_at hl 4 rfl) ?_
        refine lv_iconst (v := (nI 4)) hx hb dL_isWell_96 (by decide) ?_
        refine xc_i (xr_V (As := [.int (nI k29), .int (nI 4)]) (rest := [.int (xf_sum (fun i => M (b + 1 + 2 * i + 34) 4) k29)]) (κ := 16) ⟨hx, hb, hml, hown, hts⟩ (cz_person l O (xr_up M s.heap.size (zw_r (b + 1) M (k29 + 1))) b tb2 (hzr _) (k := k29) (jj := 4) hk29 (by omega)) (cwV 2 hts gL_isWell_X6_person rfl rfl rfl (by decide +kernel) ⟨Nat.le_of_ble_eq_true rfl, Nat.le_of_ble_eq_true rfl⟩) hK hst hnw hS hW tb2 (by decide) rfl rfl rfl hl.1 rfl (Nat.le_of_ble_eq_true rfl) dL_isWell_97 ⟨Nat.le_of_ble_eq_true rfl, Nat.le_of_ble_eq_true rfl⟩) hS (fun r_248 M_246 H locs hq_247 hW hS => ?_)
        obtain ⟨hq_247a, hq_247b⟩ := hq_247
        rw [hq_247b] at hW
        rw [hq_247a]
        rw [show (zf_pe (b + 1) (xr_up M s.heap.size (zw_r (b + 1) M (k29 + 1))) k29 4) = (M (b + 1 + 2 * k29 + 34) 4) from ((zg_pe (hgr _) (show k29 < 24 by omega) 4).trans rfl)]
        refine lv_iadd hx hb dL_isWell_100 ?_
        refine lv_istore (lv' := [(7, .int ((xf_sum (fun i => M (b + 1 + 2 * i + 34) 4) k29) + (M (b + 1 + 2 * k29 + 34) 4))), (4, .int ((xf_sum (fun i => M (b + 1 + 2 * i + 34) 9) k29) + (M (b + 1 + 2 * k29 + 34) 9))), (3, .int ((xf_sum (fun i => M (b + 1 + 2 * i + 34) 7) k29) + (M (b + 1 + 2 * k29 + 34) 7))), (1, .int ((xf_sum (fun i => zm_h (M (b + 1 + 2 * i + 34) 5)) k29) + (zm_h (M (b + 1 + 2 * k29 + 34) 5)))), (11, .int (nI 1)), (10, .int (nI k29)), (2, .int (nI 0)), (5, .int (nI 0)), (6, .int (nI 0)), (8, .ref s.heap.size), (9, .int (nI 1)), (0, .ref b)]) hx hb dL_isWell_101 hl (by decide) rfl (fun ls hl => ?_)
        refine lv_iload hx hb dL_isWell_103 (lv_at hl 10 rfl) ?_
        refine lv_if_eq (tgt := 281) hx hb dL_isWell_105 (by decide) (fun c_249 => ?_) (fun c_249 => ?_)
        · exact absurd c_249 (by decide)
        · refine lv_iload hx hb dL_isWell_108 (lv_at hl 4 rfl) ?_
          refine lv_iconst (v := (nI 2)) hx hb dL_isWell_110 (by decide) ?_
          refine lv_icmp_ge (tgt := 157) hx hb dL_isWell_111 (by decide) (fun c_250 => ?_) (fun c_250 => ?_)
          · exact absurd c_250 (nI_ge (by omega) (by omega))
          · refine lv_aload_n hx hb dL_isWell_114 rfl (lv_at hl 11 rfl) ?_
            refine lv_iload hx hb dL_isWell_115 (lv_at hl 5 rfl) ?_
            refine lv_iconst (v := (nI 4)) hx hb dL_isWell_117 (by decide) ?_
            refine xc_i (xr_V (As := [.int (nI k29), .int (nI 4)]) (rest := []) (κ := 16) ⟨hx, hb, hml, hown, hts⟩ (cz_person l O (xr_up M s.heap.size (zw_r (b + 1) M (k29 + 1))) b tb2 (hzr _) (k := k29) (jj := 4) hk29 (by omega)) (cwV 2 hts gL_isWell_X6_person rfl rfl rfl (by decide +kernel) ⟨Nat.le_of_ble_eq_true rfl, Nat.le_of_ble_eq_true rfl⟩) hK hst hnw hS hW tb2 (by decide) rfl rfl rfl hl.1 rfl (Nat.le_of_ble_eq_true rfl) dL_isWell_118 ⟨Nat.le_of_ble_eq_true rfl, Nat.le_of_ble_eq_true rfl⟩) hS (fun r_253 M_251 H locs hq_252 hW hS => ?_)
            obtain ⟨hq_252a, hq_252b⟩ := hq_252
            rw [hq_252b] at hW
            rw [hq_252a]
            rw [show (zf_pe (b + 1) (xr_up M s.heap.size (zw_r (b + 1) M (k29 + 1))) k29 4) = (nI t1) from ((zg_pe (hgr _) (show k29 < 24 by omega) 4).trans p4)]
            refine lv_aload_n hx hb dL_isWell_121 rfl (lv_at hl 11 rfl) ?_
            refine lv_iload hx hb dL_isWell_122 (lv_at hl 5 rfl) ?_
            refine lv_iconst (v := (nI 5)) hx hb dL_isWell_124 (by decide) ?_
            refine xc_i (xr_V (As := [.int (nI k29), .int (nI 5)]) (rest := [.int (nI t1)]) (κ := 16) ⟨hx, hb, hml, hown, hts⟩ (cz_person l O (xr_up M s.heap.size (zw_r (b + 1) M (k29 + 1))) b tb2 (hzr _) (k := k29) (jj := 5) hk29 (by omega)) (cwV 2 hts gL_isWell_X6_person rfl rfl rfl (by decide +kernel) ⟨Nat.le_of_ble_eq_true rfl, Nat.le_of_ble_eq_true rfl⟩) hK hst hnw hS hW tb2 (by decide) rfl rfl rfl hl.1 rfl (Nat.le_of_ble_eq_true rfl) dL_isWell_125 ⟨Nat.le_of_ble_eq_true rfl, Nat.le_of_ble_eq_true rfl⟩) hS (fun r_256 M_254 H locs hq_255 hW hS => ?_)
            obtain ⟨hq_255a, hq_255b⟩ := hq_255
            rw [hq_255b] at hW
            rw [hq_255a]
            rw [show (zf_pe (b + 1) (xr_up M s.heap.size (zw_r (b + 1) M (k29 + 1))) k29 5) = (nI m1) from ((zg_pe (hgr _) (show k29 < 24 by omega) 5).trans p3)]
            refine lv_icmp_ge (tgt := 281) hx hb dL_isWell_128 (by decide) (fun c_257 => ?_) (fun c_257 => ?_)
            · exact absurd c_257 (nI_ge pt (by omega))
            · refine lv_aload_n hx hb dL_isWell_131 rfl (lv_at hl 11 rfl) ?_
              refine lv_iload hx hb dL_isWell_132 (lv_at hl 5 rfl) ?_
              refine lv_iconst (v := (nI 1)) hx hb dL_isWell_134 (by decide) ?_
              refine xc_i (xr_V (As := [.int (nI k29), .int (nI 1)]) (rest := []) (κ := 16) ⟨hx, hb, hml, hown, hts⟩ (cz_person l O (xr_up M s.heap.size (zw_r (b + 1) M (k29 + 1))) b tb2 (hzr _) (k := k29) (jj := 1) hk29 (by omega)) (cwV 2 hts gL_isWell_X6_person rfl rfl rfl (by decide +kernel) ⟨Nat.le_of_ble_eq_true rfl, Nat.le_of_ble_eq_true rfl⟩) hK hst hnw hS hW tb2 (by decide) rfl rfl rfl hl.1 rfl (Nat.le_of_ble_eq_true rfl) dL_isWell_135 ⟨Nat.le_of_ble_eq_true rfl, Nat.le_of_ble_eq_true rfl⟩) hS (fun r_260 M_258 H locs hq_259 hW hS => ?_)
              obtain ⟨hq_259a, hq_259b⟩ := hq_259
              rw [hq_259b] at hW
              rw [hq_259a]
              rw [show (zf_pe (b + 1) (xr_up M s.heap.size (zw_r (b + 1) M (k29 + 1))) k29 1) = (nI w0) from ((zg_pe (hgr _) (show k29 < 24 by omega) 1).trans hza)]
              refine lv_if_lt (tgt := 281) hx hb dL_isWell_138 (by decide) (fun c_261 => ?_) (fun c_261 => ?_)
              · exact absurd c_261 (nI_pos (by omega))
              · refine lv_aload_n hx hb dL_isWell_141 rfl (lv_at hl 11 rfl) ?_
                refine lv_iload hx hb dL_isWell_142 (lv_at hl 5 rfl) ?_
                refine lv_bipush (v := (nI 8)) hx hb dL_isWell_144 (by decide) ?_
                refine xc_i (xr_V (As := [.int (nI k29), .int (nI 8)]) (rest := []) (κ := 16) ⟨hx, hb, hml, hown, hts⟩ (cz_person l O (xr_up M s.heap.size (zw_r (b + 1) M (k29 + 1))) b tb2 (hzr _) (k := k29) (jj := 8) hk29 (by omega)) (cwV 2 hts gL_isWell_X6_person rfl rfl rfl (by decide +kernel) ⟨Nat.le_of_ble_eq_true rfl, Nat.le_of_ble_eq_true rfl⟩) hK hst hnw hS hW tb2 (by decide) rfl rfl rfl hl.1 rfl (Nat.le_of_ble_eq_true rfl) dL_isWell_146 ⟨Nat.le_of_ble_eq_true rfl, Nat.le_of_ble_eq_true rfl⟩) hS (fun r_264 M_262 H locs hq_263 hW hS => ?_)
                obtain ⟨hq_263a, hq_263b⟩ := hq_263
                rw [hq_263b] at hW
                rw [hq_263a]
                rw [show (zf_pe (b + 1) (xr_up M s.heap.size (zw_r (b + 1) M (k29 + 1))) k29 8) = (-6) from ((zg_pe (hgr _) (show k29 < 24 by omega) 8).trans p10)]
                refine lv_bipush (v := (-6)) hx hb dL_isWell_149 (by decide) ?_
                refine lv_icmp_ne (tgt := 281) hx hb dL_isWell_151 (by decide) (fun c_265 => ?_) (fun c_265 => ?_)
                · exact absurd c_265 (fun z => z rfl)
                · refine lv_goto (tgt := 206) hx hb dL_isWell_154 (by decide) ?_
                  refine lv_iload hx hb dL_isWell_206 (lv_at hl 4 rfl) ?_
                  refine lv_iconst (v := (nI 2)) hx hb dL_isWell_208 (by decide) ?_
                  refine lv_icmp_ne (tgt := 229) hx hb dL_isWell_209 (by decide) (fun c_266 => ?_) (fun c_266 => ?_)
                  · refine lv_iload hx hb dL_isWell_229 (lv_at hl 4 rfl) ?_
                    refine lv_if_ne (tgt := 238) hx hb dL_isWell_231 (by decide) (fun c_267 => ?_) (fun c_267 => ?_)
                    · refine lv_iconst (v := (nI 0)) hx hb dL_isWell_238 (by decide) ?_
                      refine lv_aload_n hx hb dL_isWell_239 rfl (lv_at hl 11 rfl) ?_
                      refine lv_iload hx hb dL_isWell_240 (lv_at hl 5 rfl) ?_
                      refine lv_iconst (v := (nI 2)) hx hb dL_isWell_242 (by decide) ?_
                      refine xc_i (xr_V (As := [.int (nI k29), .int (nI 2)]) (rest := [.int (nI 0)]) (κ := 16) ⟨hx, hb, hml, hown, hts⟩ (cz_person l O (xr_up M s.heap.size (zw_r (b + 1) M (k29 + 1))) b tb2 (hzr _) (k := k29) (jj := 2) hk29 (by omega)) (cwV 2 hts gL_isWell_X6_person rfl rfl rfl (by decide +kernel) ⟨Nat.le_of_ble_eq_true rfl, Nat.le_of_ble_eq_true rfl⟩) hK hst hnw hS hW tb2 (by decide) rfl rfl rfl hl.1 rfl (Nat.le_of_ble_eq_true rfl) dL_isWell_243 ⟨Nat.le_of_ble_eq_true rfl, Nat.le_of_ble_eq_true rfl⟩) hS (fun r_270 M_268 H locs hq_269 hW hS => ?_)
                      obtain ⟨hq_269a, hq_269b⟩ := hq_269
                      rw [hq_269b] at hW
                      rw [hq_269a]
                      rw [show (zf_pe (b + 1) (xr_up M s.heap.size (zw_r (b + 1) M (k29 + 1))) k29 2) = (-6) from ((zg_pe (hgr _) (show k29 < 24 by omega) 2).trans hpl)]
                      refine lv_if_lt (tgt := 253) hx hb dL_isWell_246 (by decide) (fun c_271 => ?_) (fun c_271 => ?_)
                      · refine lv_iconst (v := (nI 0)) hx hb dL_isWell_253 (by decide) ?_
                        refine lv_icmp_ne (tgt := 281) hx hb dL_isWell_254 (by decide) (fun c_272 => ?_) (fun c_272 => ?_)
                        · exact absurd c_272 (fun z => z rfl)
                        · refine lv_aload_n hx hb dL_isWell_257 rfl (lv_at hl 11 rfl) ?_
                          refine lv_iload hx hb dL_isWell_258 (lv_at hl 5 rfl) ?_
                          refine lv_iconst (v := (nI 3)) hx hb dL_isWell_260 (by decide) ?_
                          refine xc_i (xr_V (As := [.int (nI k29), .int (nI 3)]) (rest := []) (κ := 16) ⟨hx, hb, hml, hown, hts⟩ (cz_person l O (xr_up M s.heap.size (zw_r (b + 1) M (k29 + 1))) b tb2 (hzr _) (k := k29) (jj := 3) hk29 (by omega)) (cwV 2 hts gL_isWell_X6_person rfl rfl rfl (by decide +kernel) ⟨Nat.le_of_ble_eq_true rfl, Nat.le_of_ble_eq_true rfl⟩) hK hst hnw hS hW tb2 (by decide) rfl rfl rfl hl.1 rfl (Nat.le_of_ble_eq_true rfl) dL_isWell_261 ⟨Nat.le_of_ble_eq_true rfl, Nat.le_of_ble_eq_true rfl⟩) hS (fun r_275 M_273 H locs hq_274 hW hS => ?_)
                          obtain ⟨hq_274a, hq_274b⟩ := hq_274
                          rw [hq_274b] at hW
                          rw [hq_274a]
                          rw [show (zf_pe (b + 1) (xr_up M s.heap.size (zw_r (b + 1) M (k29 + 1))) k29 3) = (nI 1) from ((zg_pe (hgr _) (show k29 < 24 by omega) 3).trans (zh_1 ph))]
                          refine lv_if_eq (tgt := 277) hx hb dL_isWell_264 (by decide) (fun c_276 => ?_) (fun c_276 => ?_)
                          · exact absurd c_276 (by decide)
                          · refine lv_aload_n hx hb dL_isWell_267 rfl (lv_at hl 11 rfl) ?_
                            refine lv_iload hx hb dL_isWell_268 (lv_at hl 5 rfl) ?_
                            refine lv_iconst (v := (nI 4)) hx hb dL_isWell_270 (by decide) ?_
                            refine xc_i (xr_V (As := [.int (nI k29), .int (nI 4)]) (rest := []) (κ := 16) ⟨hx, hb, hml, hown, hts⟩ (cz_person l O (xr_up M s.heap.size (zw_r (b + 1) M (k29 + 1))) b tb2 (hzr _) (k := k29) (jj := 4) hk29 (by omega)) (cwV 2 hts gL_isWell_X6_person rfl rfl rfl (by decide +kernel) ⟨Nat.le_of_ble_eq_true rfl, Nat.le_of_ble_eq_true rfl⟩) hK hst hnw hS hW tb2 (by decide) rfl rfl rfl hl.1 rfl (Nat.le_of_ble_eq_true rfl) dL_isWell_271 ⟨Nat.le_of_ble_eq_true rfl, Nat.le_of_ble_eq_true rfl⟩) hS (fun r_279 M_277 H locs hq_278 hW hS => ?_)
                            obtain ⟨hq_278a, hq_278b⟩ := hq_278
                            rw [hq_278b] at hW
                            rw [hq_278a]
                            rw [show (zf_pe (b + 1) (xr_up M s.heap.size (zw_r (b + 1) M (k29 + 1))) k29 4) = (nI t1) from ((zg_pe (hgr _) (show k29 < 24 by omega) 4).trans p4)]
                            refine lv_if_le (tgt := 281) hx hb dL_isWell_274 (by decide) (fun c_280 => ?_) (fun c_280 => ?_)
                            · exact absurd c_280 (nI_nle pt0 (by omega))
                            · refine lv_iconst (v := (nI 1)) hx hb dL_isWell_277 (by decide) ?_
                              refine lv_goto (tgt := 282) hx hb dL_isWell_278 (by decide) ?_
                              refine lv_istore (lv' := [(9, .int (nI 1)), (7, .int ((xf_sum (fun i => M (b + 1 + 2 * i + 34) 4) k29) + (M (b + 1 + 2 * k29 + 34) 4))), (4, .int ((xf_sum (fun i => M (b + 1 + 2 * i + 34) 9) k29) + (M (b + 1 + 2 * k29 + 34) 9))), (3, .int ((xf_sum (fun i => M (b + 1 + 2 * i + 34) 7) k29) + (M (b + 1 + 2 * k29 + 34) 7))), (1, .int ((xf_sum (fun i => zm_h (M (b + 1 + 2 * i + 34) 5)) k29) + (zm_h (M (b + 1 + 2 * k29 + 34) 5)))), (11, .int (nI 1)), (10, .int (nI k29)), (2, .int (nI 0)), (5, .int (nI 0)), (6, .int (nI 0)), (8, .ref s.heap.size), (0, .ref b)]) hx hb dL_isWell_282 hl (by decide) rfl (fun ls hl => ?_)
                              refine lv_iinc (v := (nI (k29 + 1))) (lv' := [(10, .int (nI (k29 + 1))), (9, .int (nI 1)), (7, .int ((xf_sum (fun i => M (b + 1 + 2 * i + 34) 4) k29) + (M (b + 1 + 2 * k29 + 34) 4))), (4, .int ((xf_sum (fun i => M (b + 1 + 2 * i + 34) 9) k29) + (M (b + 1 + 2 * k29 + 34) 9))), (3, .int ((xf_sum (fun i => M (b + 1 + 2 * i + 34) 7) k29) + (M (b + 1 + 2 * k29 + 34) 7))), (1, .int ((xf_sum (fun i => zm_h (M (b + 1 + 2 * i + 34) 5)) k29) + (zm_h (M (b + 1 + 2 * k29 + 34) 5)))), (11, .int (nI 1)), (2, .int (nI 0)), (5, .int (nI 0)), (6, .int (nI 0)), (8, .ref s.heap.size), (0, .ref b)]) hx hb dL_isWell_284 hl (k := 6) rfl ((nI_1 k29)) (by decide) rfl (fun ls hl => ?_)
                              refine lv_goto (tgt := 29) hx hb dL_isWell_287 (by decide) ?_
                              exact ih29 () _ _ _ ⟨hW, hS, lv_sub hl [0, 7, 8, 9, 5, 4, 3, 2, 10, 1, 11] rfl, trivial⟩
                      · exact absurd (by decide) c_271
                    · exact absurd c_267 (by decide)
                  · exact absurd c_266 (by decide)
      · have hza := zs_n2 (M := M) (p := (b + 1 + 2 * k29 + 34)) (Or.inl pw)
        have hpl := zw_pl1 hz hk29 (by rw [pw]; decide)
        refine lv_aload_n hx hb dL_isWell_39 rfl (lv_at hl 10 rfl) ?_
        refine lv_iload hx hb dL_isWell_40 (lv_at hl 0 rfl) ?_
        refine lv_iconst (v := (nI 0)) hx hb dL_isWell_42 (by decide) ?_
        refine xc_i (xr_V (As := [.int (nI k29), .int (nI 0)]) (rest := []) (κ := 16) ⟨hx, hb, hml, hown, hts⟩ (cz_person l O (xr_up M s.heap.size (zw_r (b + 1) M k29)) b tb2 (hzr _) (k := k29) (jj := 0) hk29 (by omega)) (cwV 2 hts gL_isWell_X6_person rfl rfl rfl (by decide +kernel) ⟨Nat.le_of_ble_eq_true rfl, Nat.le_of_ble_eq_true rfl⟩) hK hst hnw hS hW tb2 (by decide) rfl rfl rfl hl.1 rfl (Nat.le_of_ble_eq_true rfl) dL_isWell_43 ⟨Nat.le_of_ble_eq_true rfl, Nat.le_of_ble_eq_true rfl⟩) hS (fun r_283 M_281 H locs hq_282 hW hS => ?_)
        obtain ⟨hq_282a, hq_282b⟩ := hq_282
        rw [hq_282b] at hW
        rw [hq_282a]
        rw [show (zf_pe (b + 1) (xr_up M s.heap.size (zw_r (b + 1) M k29)) k29 0) = (nI 2) from ((zg_pe (hgr _) (show k29 < 24 by omega) 0).trans pw)]
        refine lv_istore (lv' := [(11, .int (nI 2)), (10, .int (nI k29)), (2, .int (nI 0)), (5, .int (nI 0)), (6, .int (nI 0)), (1, .int (xf_sum (fun i => zm_h (M (b + 1 + 2 * i + 34) 5)) k29)), (3, .int (xf_sum (fun i => M (b + 1 + 2 * i + 34) 7) k29)), (4, .int (xf_sum (fun i => M (b + 1 + 2 * i + 34) 9) k29)), (7, .int (xf_sum (fun i => M (b + 1 + 2 * i + 34) 4) k29)), (8, .ref s.heap.size), (9, .int (nI 1)), (0, .ref b)]) hx hb dL_isWell_46 hl (by decide) rfl (fun ls hl => ?_)
        refine lv_aload hx hb dL_isWell_48 (lv_at hl 9 rfl) ?_
        refine lv_iload hx hb dL_isWell_50 (lv_at hl 0 rfl) ?_
        refine lv_dup2_11 hx hb dL_isWell_52 rfl rfl ?_
        refine xg_iald (κ := 104) (n := 4) hx hb hK hW zt_xs (by decide) rfl 2 rfl (by decide) (by decide) dL_isWell_53 ?_
        refine lv_iconst (v := (nI 1)) hx hb dL_isWell_54 (by decide) ?_
        refine lv_iadd hx hb dL_isWell_55 ?_
        refine xg_iast (κ := 104) (n := 4) hx hb hK O hW hS zt_xs (by decide) (fun _ => rfl) (fun _ => trivial) 2 rfl (by decide) (by decide) dL_isWell_56 (fun H locs hW hS => ?_)
        obtain ⟨M_284, eM_284⟩ : ∃ M9, M9 = xu_p (xr_up M s.heap.size (zw_r (b + 1) M k29)) s.heap.size 2 (((xr_up M s.heap.size (zw_r (b + 1) M k29)) s.heap.size 2) + (nI 1)) := ⟨_, rfl⟩
        rw [← eM_284] at hW
        have eZ : M_284 = (xr_up M s.heap.size (zw_r (b + 1) M (k29 + 1))) := by rw [eM_284]; unfold xu_p; rw [xr_s, zx_2]; exact congrArg (xr_up M s.heap.size) (zw_r1 pw (by omega))
        rw [eZ] at hW
        refine lv_iload_n hx hb dL_isWell_57 rfl (lv_at hl 5 rfl) ?_
        refine lv_aload_n hx hb dL_isWell_58 rfl (lv_at hl 11 rfl) ?_
        refine lv_iload hx hb dL_isWell_59 (lv_at hl 1 rfl) ?_
        refine lv_iconst (v := (nI 3)) hx hb dL_isWell_61 (by decide) ?_
        refine xc_i (xr_V (As := [.int (nI k29), .int (nI 3)]) (rest := [.int (xf_sum (fun i => zm_h (M (b + 1 + 2 * i + 34) 5)) k29)]) (κ := 16) ⟨hx, hb, hml, hown, hts⟩ (cz_person l O (xr_up M s.heap.size (zw_r (b + 1) M (k29 + 1))) b tb2 (hzr _) (k := k29) (jj := 3) hk29 (by omega)) (cwV 2 hts gL_isWell_X6_person rfl rfl rfl (by decide +kernel) ⟨Nat.le_of_ble_eq_true rfl, Nat.le_of_ble_eq_true rfl⟩) hK hst hnw hS hW tb2 (by decide) rfl rfl rfl hl.1 rfl (Nat.le_of_ble_eq_true rfl) dL_isWell_62 ⟨Nat.le_of_ble_eq_true rfl, Nat.le_of_ble_eq_true rfl⟩) hS (fun r_287 M_285 H locs hq_286 hW hS => ?_)
        obtain ⟨hq_286a, hq_286b⟩ := hq_286
        rw [hq_286b] at hW
        rw [hq_286a]
        rw [show (zf_pe (b + 1) (xr_up M s.heap.size (zw_r (b + 1) M (k29 + 1))) k29 3) = (zm_h (M (b + 1 + 2 * k29 + 34) 5)) from ((zg_pe (hgr _) (show k29 < 24 by omega) 3).trans rfl)]
        refine lv_iadd hx hb dL_isWell_65 ?_
        refine lv_istore_n (lv' := [(1, .int ((xf_sum (fun i => zm_h (M (b + 1 + 2 * i + 34) 5)) k29) + (zm_h (M (b + 1 + 2 * k29 + 34) 5)))), (11, .int (nI 2)), (10, .int (nI k29)), (2, .int (nI 0)), (5, .int (nI 0)), (6, .int (nI 0)), (3, .int (xf_sum (fun i => M (b + 1 + 2 * i + 34) 7) k29)), (4, .int (xf_sum (fun i => M (b + 1 + 2 * i + 34) 9) k29)), (7, .int (xf_sum (fun i => M (b + 1 + 2 * i + 34) 4) k29)), (8, .ref s.heap.size), (9, .int (nI 1)), (0, .ref b)]) hx hb dL_isWell_66 rfl hl (by decide) rfl (fun ls hl => ?_)
        refine lv_iload_n hx hb dL_isWell_67 rfl (lv_at hl 6 rfl) ?_
        refine lv_aload_n hx hb dL_isWell_68 rfl (lv_at hl 11 rfl) ?_
        refine lv_iload hx hb dL_isWell_69 (lv_at hl 2 rfl) ?_
        refine lv_bipush (v := (nI 6)) hx hb dL_isWell_71 (by decide) ?_
        refine xc_i (xr_V (As := [.int (nI k29), .int (nI 6)]) (rest := [.int (xf_sum (fun i => M (b + 1 + 2 * i + 34) 7) k29)]) (κ := 16) ⟨hx, hb, hml, hown, hts⟩ (cz_person l O (xr_up M s.heap.size (zw_r (b + 1) M (k29 + 1))) b tb2 (hzr _) (k := k29) (jj := 6) hk29 (by omega)) (cwV 2 hts gL_isWell_X6_person rfl rfl rfl (by decide +kernel) ⟨Nat.le_of_ble_eq_true rfl, Nat.le_of_ble_eq_true rfl⟩) hK hst hnw hS hW tb2 (by decide) rfl rfl rfl hl.1 rfl (Nat.le_of_ble_eq_true rfl) dL_isWell_73 ⟨Nat.le_of_ble_eq_true rfl, Nat.le_of_ble_eq_true rfl⟩) hS (fun r_290 M_288 H locs hq_289 hW hS => ?_)
        obtain ⟨hq_289a, hq_289b⟩ := hq_289
        rw [hq_289b] at hW
        rw [hq_289a]
        rw [show (zf_pe (b + 1) (xr_up M s.heap.size (zw_r (b + 1) M (k29 + 1))) k29 6) = (M (b + 1 + 2 * k29 + 34) 7) from ((zg_pe (hgr _) (show k29 < 24 by omega) 6).trans rfl)]
        refine lv_iadd hx hb dL_isWell_76 ?_
        refine lv_istore_n (lv' := [(3, .int ((xf_sum (fun i => M (b + 1 + 2 * i + 34) 7) k29) + (M (b + 1 + 2 * k29 + 34) 7))), (1, .int ((xf_sum (fun i => zm_h (M (b + 1 + 2 * i + 34) 5)) k29) + (zm_h (M (b + 1 + 2 * k29 + 34) 5)))), (11, .int (nI 2)), (10, .int (nI k29)), (2, .int (nI 0)), (5, .int (nI 0)), (6, .int (nI 0)), (4, .int (xf_sum (fun i => M (b + 1 + 2 * i + 34) 9) k29)), (7, .int (xf_sum (fun i => M (b + 1 + 2 * i + 34) 4) k29)), (8, .ref s.heap.size), (9, .int (nI 1)), (0, .ref b)]) hx hb dL_isWell_77 rfl hl (by decide) rfl (fun ls hl => ?_)
        refine lv_iload hx hb dL_isWell_78 (lv_at hl 7 rfl) ?_
        refine lv_aload_n hx hb dL_isWell_80 rfl (lv_at hl 11 rfl) ?_
        refine lv_iload hx hb dL_isWell_81 (lv_at hl 3 rfl) ?_
        refine lv_bipush (v := (nI 7)) hx hb dL_isWell_83 (by decide) ?_
        refine xc_i (xr_V (As := [.int (nI k29), .int (nI 7)]) (rest := [.int (xf_sum (fun i => M (b + 1 + 2 * i + 34) 9) k29)]) (κ := 16) ⟨hx, hb, hml, hown, hts⟩ (cz_person l O (xr_up M s.heap.size (zw_r (b + 1) M (k29 + 1))) b tb2 (hzr _) (k := k29) (jj := 7) hk29 (by omega)) (cwV 2 hts gL_isWell_X6_person rfl rfl rfl (by decide +kernel) ⟨Nat.le_of_ble_eq_true rfl, Nat.le_of_ble_eq_true rfl⟩) hK hst hnw hS hW tb2 (by decide) rfl rfl rfl hl.1 rfl (Nat.le_of_ble_eq_true rfl) dL_isWell_85 ⟨Nat.le_of_ble_eq_true rfl, Nat.le_of_ble_eq_true rfl⟩) hS (fun r_293 M_291 H locs hq_292 hW hS => ?_)
        obtain ⟨hq_292a, hq_292b⟩ := hq_292
        rw [hq_292b] at hW
        rw [hq_292a]
        rw [show (zf_pe (b + 1) (xr_up M s.heap.size (zw_r (b + 1) M (k29 + 1))) k29 7) = (M (b + 1 + 2 * k29 + 34) 9) from ((zg_pe (hgr _) (show k29 < 24 by omega) 7).trans rfl)]
        refine lv_iadd hx hb dL_isWell_88 ?_
        refine lv_istore (lv' := [(4, .int ((xf_sum (fun i => M (b + 1 + 2 * i + 34) 9) k29) + (M (b + 1 + 2 * k29 + 34) 9))), (3, .int ((xf_sum (fun i => M (b + 1 + 2 * i + 34) 7) k29) + (M (b + 1 + 2 * k29 + 34) 7))), (1, .int ((xf_sum (fun i => zm_h (M (b + 1 + 2 * i + 34) 5)) k29) + (zm_h (M (b + 1 + 2 * k29 + 34) 5)))), (11, .int (nI 2)), (10, .int (nI k29)), (2, .int (nI 0)), (5, .int (nI 0)), (6, .int (nI 0)), (7, .int (xf_sum (fun i => M (b + 1 + 2 * i + 34) 4) k29)), (8, .ref s.heap.size), (9, .int (nI 1)), (0, .ref b)]) hx hb dL_isWell_89 hl (by decide) rfl (fun ls hl => ?_)
        refine lv_iload hx hb dL_isWell_91 (lv_at hl 8 rfl) ?_
        refine lv_aload_n hx hb dL_isWell_93 rfl (lv_at hl 11 rfl) ?_
        refine lv_iload hx hb dL_isWell_94 (lv_at hl 4 rfl) ?_
        refine lv_iconst (v := (nI 4)) hx hb dL_isWell_96 (by decide) ?_
        refine xc_i (xr_V (As := [.int (nI k29), .int (nI 4)]) (rest := [.int (xf_sum (fun i => M (b + 1 + 2 * i + 34) 4) k29)]) (κ := 16) ⟨hx, hb, hml, hown, hts⟩ (cz_person l O (xr_up M s.heap.size (zw_r (b + 1) M (k29 + 1))) b tb2 (hzr _) (k := k29) (jj := 4) hk29 (by omega)) (cwV 2 hts gL_isWell_X6_person rfl rfl rfl (by decide +kernel) ⟨Nat.le_of_ble_eq_true rfl, Nat.le_of_ble_eq_true rfl⟩) hK hst hnw hS hW tb2 (by decide) rfl rfl rfl hl.1 rfl (Nat.le_of_ble_eq_true rfl) dL_isWell_97 ⟨Nat.le_of_ble_eq_true rfl, Nat.le_of_ble_eq_true rfl⟩) hS (fun r_296 M_294 H locs hq_295 hW hS => ?_)
        obtain ⟨hq_295a, hq_295b⟩ := hq_295
        rw [hq_295b] at hW
        rw [hq_295a]
        rw [show (zf_pe (b + 1) (xr_up M s.heap.size (zw_r (b + 1) M (k29 + 1))) k29 4) = (M (b + 1 + 2 * k29 + 34) 4) from ((zg_pe (hgr _) (show k29 < 24 by omega) 4).trans rfl)]
        refine lv_iadd hx hb dL_isWell_100 ?_
        refine lv_istore (lv' := [(7, .int ((xf_sum (fun i => M (b + 1 + 2 * i + 34) 4) k29) + (M (b + 1 + 2 * k29 + 34) 4))), (4, .int ((xf_sum (fun i => M (b + 1 + 2 * i + 34) 9) k29) + (M (b + 1 + 2 * k29 + 34) 9))), (3, .int ((xf_sum (fun i => M (b + 1 + 2 * i + 34) 7) k29) + (M (b + 1 + 2 * k29 + 34) 7))), (1, .int ((xf_sum (fun i => zm_h (M (b + 1 + 2 * i + 34) 5)) k29) + (zm_h (M (b + 1 + 2 * k29 + 34) 5)))), (11, .int (nI 2)), (10, .int (nI k29)), (2, .int (nI 0)), (5, .int (nI 0)), (6, .int (nI 0)), (8, .ref s.heap.size), (9, .int (nI 1)), (0, .ref b)]) hx hb dL_isWell_101 hl (by decide) rfl (fun ls hl => ?_)
        refine lv_iload hx hb dL_isWell_103 (lv_at hl 10 rfl) ?_
        refine lv_if_eq (tgt := 281) hx hb dL_isWell_105 (by decide) (fun c_297 => ?_) (fun c_297 => ?_)
        · exact absurd c_297 (by decide)
        · refine lv_iload hx hb dL_isWell_108 (lv_at hl 4 rfl) ?_
          refine lv_iconst (v := (nI 2)) hx hb dL_isWell_110 (by decide) ?_
          refine lv_icmp_ge (tgt := 157) hx hb dL_isWell_111 (by decide) (fun c_298 => ?_) (fun c_298 => ?_)
          · refine lv_aload_n hx hb dL_isWell_157 rfl (lv_at hl 11 rfl) ?_
            refine lv_iload hx hb dL_isWell_158 (lv_at hl 5 rfl) ?_
            refine lv_iconst (v := (nI 1)) hx hb dL_isWell_160 (by decide) ?_
            refine xc_i (xr_V (As := [.int (nI k29), .int (nI 1)]) (rest := []) (κ := 16) ⟨hx, hb, hml, hown, hts⟩ (cz_person l O (xr_up M s.heap.size (zw_r (b + 1) M (k29 + 1))) b tb2 (hzr _) (k := k29) (jj := 1) hk29 (by omega)) (cwV 2 hts gL_isWell_X6_person rfl rfl rfl (by decide +kernel) ⟨Nat.le_of_ble_eq_true rfl, Nat.le_of_ble_eq_true rfl⟩) hK hst hnw hS hW tb2 (by decide) rfl rfl rfl hl.1 rfl (Nat.le_of_ble_eq_true rfl) dL_isWell_161 ⟨Nat.le_of_ble_eq_true rfl, Nat.le_of_ble_eq_true rfl⟩) hS (fun r_301 M_299 H locs hq_300 hW hS => ?_)
            obtain ⟨hq_300a, hq_300b⟩ := hq_300
            rw [hq_300b] at hW
            rw [hq_300a]
            rw [show (zf_pe (b + 1) (xr_up M s.heap.size (zw_r (b + 1) M (k29 + 1))) k29 1) = (-6) from ((zg_pe (hgr _) (show k29 < 24 by omega) 1).trans hza)]
            refine lv_bipush (v := (-6)) hx hb dL_isWell_164 (by decide) ?_
            refine lv_icmp_ne (tgt := 281) hx hb dL_isWell_166 (by decide) (fun c_302 => ?_) (fun c_302 => ?_)
            · exact absurd c_302 (fun z => z rfl)
            · refine lv_aload_n hx hb dL_isWell_169 rfl (lv_at hl 11 rfl) ?_
              refine lv_iload hx hb dL_isWell_170 (lv_at hl 5 rfl) ?_
              refine lv_iconst (v := (nI 3)) hx hb dL_isWell_172 (by decide) ?_
              refine xc_i (xr_V (As := [.int (nI k29), .int (nI 3)]) (rest := []) (κ := 16) ⟨hx, hb, hml, hown, hts⟩ (cz_person l O (xr_up M s.heap.size (zw_r (b + 1) M (k29 + 1))) b tb2 (hzr _) (k := k29) (jj := 3) hk29 (by omega)) (cwV 2 hts gL_isWell_X6_person rfl rfl rfl (by decide +kernel) ⟨Nat.le_of_ble_eq_true rfl, Nat.le_of_ble_eq_true rfl⟩) hK hst hnw hS hW tb2 (by decide) rfl rfl rfl hl.1 rfl (Nat.le_of_ble_eq_true rfl) dL_isWell_173 ⟨Nat.le_of_ble_eq_true rfl, Nat.le_of_ble_eq_true rfl⟩) hS (fun r_305 M_303 H locs hq_304 hW hS => ?_)
              obtain ⟨hq_304a, hq_304b⟩ := hq_304
              rw [hq_304b] at hW
              rw [hq_304a]
              rw [show (zf_pe (b + 1) (xr_up M s.heap.size (zw_r (b + 1) M (k29 + 1))) k29 3) = (nI 0) from ((zg_pe (hgr _) (show k29 < 24 by omega) 3).trans (zh_0 ph))]
              refine lv_if_ne (tgt := 281) hx hb dL_isWell_176 (by decide) (fun c_306 => ?_) (fun c_306 => ?_)
              · exact absurd c_306 (fun z => z rfl)
              · refine lv_aload_n hx hb dL_isWell_179 rfl (lv_at hl 11 rfl) ?_
                refine lv_iload hx hb dL_isWell_180 (lv_at hl 5 rfl) ?_
                refine lv_bipush (v := (nI 8)) hx hb dL_isWell_182 (by decide) ?_
                refine xc_i (xr_V (As := [.int (nI k29), .int (nI 8)]) (rest := []) (κ := 16) ⟨hx, hb, hml, hown, hts⟩ (cz_person l O (xr_up M s.heap.size (zw_r (b + 1) M (k29 + 1))) b tb2 (hzr _) (k := k29) (jj := 8) hk29 (by omega)) (cwV 2 hts gL_isWell_X6_person rfl rfl rfl (by decide +kernel) ⟨Nat.le_of_ble_eq_true rfl, Nat.le_of_ble_eq_true rfl⟩) hK hst hnw hS hW tb2 (by decide) rfl rfl rfl hl.1 rfl (Nat.le_of_ble_eq_true rfl) dL_isWell_184 ⟨Nat.le_of_ble_eq_true rfl, Nat.le_of_ble_eq_true rfl⟩) hS (fun r_309 M_307 H locs hq_308 hW hS => ?_)
                obtain ⟨hq_308a, hq_308b⟩ := hq_308
                rw [hq_308b] at hW
                rw [hq_308a]
                rw [show (zf_pe (b + 1) (xr_up M s.heap.size (zw_r (b + 1) M (k29 + 1))) k29 8) = (nI y) from ((zg_pe (hgr _) (show k29 < 24 by omega) 8).trans p10)]
                refine lv_if_lt (tgt := 281) hx hb dL_isWell_187 (by decide) (fun c_310 => ?_) (fun c_310 => ?_)
                · exact absurd c_310 (nI_pos (by omega))
                · refine lv_aload_n hx hb dL_isWell_190 rfl (lv_at hl 11 rfl) ?_
                  refine lv_iload hx hb dL_isWell_191 (lv_at hl 5 rfl) ?_
                  refine lv_bipush (v := (nI 8)) hx hb dL_isWell_193 (by decide) ?_
                  refine xc_i (xr_V (As := [.int (nI k29), .int (nI 8)]) (rest := []) (κ := 16) ⟨hx, hb, hml, hown, hts⟩ (cz_person l O (xr_up M s.heap.size (zw_r (b + 1) M (k29 + 1))) b tb2 (hzr _) (k := k29) (jj := 8) hk29 (by omega)) (cwV 2 hts gL_isWell_X6_person rfl rfl rfl (by decide +kernel) ⟨Nat.le_of_ble_eq_true rfl, Nat.le_of_ble_eq_true rfl⟩) hK hst hnw hS hW tb2 (by decide) rfl rfl rfl hl.1 rfl (Nat.le_of_ble_eq_true rfl) dL_isWell_195 ⟨Nat.le_of_ble_eq_true rfl, Nat.le_of_ble_eq_true rfl⟩) hS (fun r_313 M_311 H locs hq_312 hW hS => ?_)
                  obtain ⟨hq_312a, hq_312b⟩ := hq_312
                  rw [hq_312b] at hW
                  rw [hq_312a]
                  rw [show (zf_pe (b + 1) (xr_up M s.heap.size (zw_r (b + 1) M (k29 + 1))) k29 8) = (nI y) from ((zg_pe (hgr _) (show k29 < 24 by omega) 8).trans p10)]
                  refine lv_aload_n hx hb dL_isWell_198 rfl (lv_at hl 11 rfl) ?_
                  refine lv_iconst (v := (nI 3)) hx hb dL_isWell_199 (by decide) ?_
                  refine xc_i (xr_V (As := [.int (nI 3)]) (rest := [.int (nI y)]) (κ := 16) ⟨hx, hb, hml, hown, hts⟩ (cz_count l O (xr_up M s.heap.size (zw_r (b + 1) M (k29 + 1))) b tb2 (jj := 3) (by omega)) (cwV 1 hts gL_isWell_X6_count rfl rfl rfl (by decide +kernel) ⟨Nat.le_of_ble_eq_true rfl, Nat.le_of_ble_eq_true rfl⟩) hK hst hnw hS hW tb2 (by decide) rfl rfl rfl hl.1 rfl (Nat.le_of_ble_eq_true rfl) dL_isWell_200 ⟨Nat.le_of_ble_eq_true rfl, Nat.le_of_ble_eq_true rfl⟩) hS (fun r_316 M_314 H locs hq_315 hW hS => ?_)
                  obtain ⟨hq_315a, hq_315b⟩ := hq_315
                  rw [hq_315b] at hW
                  rw [hq_315a]
                  rw [show (zf_co (b + 1) (xr_up M s.heap.size (zw_r (b + 1) M (k29 + 1))) 3) = (nI TT) from ((zg_co (hgr _) 3).trans hz.1.2.2.1)]
                  refine lv_icmp_gt (tgt := 281) hx hb dL_isWell_203 (by decide) (fun c_317 => ?_) (fun c_317 => ?_)
                  · exact absurd c_317 (nI_nlt py (by omega))
                  · refine lv_iload hx hb dL_isWell_206 (lv_at hl 4 rfl) ?_
                    refine lv_iconst (v := (nI 2)) hx hb dL_isWell_208 (by decide) ?_
                    refine lv_icmp_ne (tgt := 229) hx hb dL_isWell_209 (by decide) (fun c_318 => ?_) (fun c_318 => ?_)
                    · exact absurd rfl c_318
                    · refine lv_aload_n hx hb dL_isWell_212 rfl (lv_at hl 11 rfl) ?_
                      refine lv_iload hx hb dL_isWell_213 (lv_at hl 5 rfl) ?_
                      refine lv_iconst (v := (nI 4)) hx hb dL_isWell_215 (by decide) ?_
                      refine xc_i (xr_V (As := [.int (nI k29), .int (nI 4)]) (rest := []) (κ := 16) ⟨hx, hb, hml, hown, hts⟩ (cz_person l O (xr_up M s.heap.size (zw_r (b + 1) M (k29 + 1))) b tb2 (hzr _) (k := k29) (jj := 4) hk29 (by omega)) (cwV 2 hts gL_isWell_X6_person rfl rfl rfl (by decide +kernel) ⟨Nat.le_of_ble_eq_true rfl, Nat.le_of_ble_eq_true rfl⟩) hK hst hnw hS hW tb2 (by decide) rfl rfl rfl hl.1 rfl (Nat.le_of_ble_eq_true rfl) dL_isWell_216 ⟨Nat.le_of_ble_eq_true rfl, Nat.le_of_ble_eq_true rfl⟩) hS (fun r_321 M_319 H locs hq_320 hW hS => ?_)
                      obtain ⟨hq_320a, hq_320b⟩ := hq_320
                      rw [hq_320b] at hW
                      rw [hq_320a]
                      rw [show (zf_pe (b + 1) (xr_up M s.heap.size (zw_r (b + 1) M (k29 + 1))) k29 4) = (nI t1) from ((zg_pe (hgr _) (show k29 < 24 by omega) 4).trans p4)]
                      refine lv_aload_n hx hb dL_isWell_219 rfl (lv_at hl 11 rfl) ?_
                      refine lv_iload hx hb dL_isWell_220 (lv_at hl 5 rfl) ?_
                      refine lv_iconst (v := (nI 5)) hx hb dL_isWell_222 (by decide) ?_
                      refine xc_i (xr_V (As := [.int (nI k29), .int (nI 5)]) (rest := [.int (nI t1)]) (κ := 16) ⟨hx, hb, hml, hown, hts⟩ (cz_person l O (xr_up M s.heap.size (zw_r (b + 1) M (k29 + 1))) b tb2 (hzr _) (k := k29) (jj := 5) hk29 (by omega)) (cwV 2 hts gL_isWell_X6_person rfl rfl rfl (by decide +kernel) ⟨Nat.le_of_ble_eq_true rfl, Nat.le_of_ble_eq_true rfl⟩) hK hst hnw hS hW tb2 (by decide) rfl rfl rfl hl.1 rfl (Nat.le_of_ble_eq_true rfl) dL_isWell_223 ⟨Nat.le_of_ble_eq_true rfl, Nat.le_of_ble_eq_true rfl⟩) hS (fun r_324 M_322 H locs hq_323 hW hS => ?_)
                      obtain ⟨hq_323a, hq_323b⟩ := hq_323
                      rw [hq_323b] at hW
                      rw [hq_323a]
                      rw [show (zf_pe (b + 1) (xr_up M s.heap.size (zw_r (b + 1) M (k29 + 1))) k29 5) = (nI t1) from ((zg_pe (hgr _) (show k29 < 24 by omega) 5).trans (p3.trans (by rw [pt])))]
                      refine lv_icmp_ne (tgt := 281) hx hb dL_isWell_226 (by decide) (fun c_325 => ?_) (fun c_325 => ?_)
                      · exact absurd c_325 (fun z => z rfl)
                      · refine lv_iload hx hb dL_isWell_229 (lv_at hl 4 rfl) ?_
                        refine lv_if_ne (tgt := 238) hx hb dL_isWell_231 (by decide) (fun c_326 => ?_) (fun c_326 => ?_)
                        · refine lv_iconst (v := (nI 0)) hx hb dL_isWell_238 (by decide) ?_
                          refine lv_aload_n hx hb dL_isWell_239 rfl (lv_at hl 11 rfl) ?_
                          refine lv_iload hx hb dL_isWell_240 (lv_at hl 5 rfl) ?_
                          refine lv_iconst (v := (nI 2)) hx hb dL_isWell_242 (by decide) ?_
                          refine xc_i (xr_V (As := [.int (nI k29), .int (nI 2)]) (rest := [.int (nI 0)]) (κ := 16) ⟨hx, hb, hml, hown, hts⟩ (cz_person l O (xr_up M s.heap.size (zw_r (b + 1) M (k29 + 1))) b tb2 (hzr _) (k := k29) (jj := 2) hk29 (by omega)) (cwV 2 hts gL_isWell_X6_person rfl rfl rfl (by decide +kernel) ⟨Nat.le_of_ble_eq_true rfl, Nat.le_of_ble_eq_true rfl⟩) hK hst hnw hS hW tb2 (by decide) rfl rfl rfl hl.1 rfl (Nat.le_of_ble_eq_true rfl) dL_isWell_243 ⟨Nat.le_of_ble_eq_true rfl, Nat.le_of_ble_eq_true rfl⟩) hS (fun r_329 M_327 H locs hq_328 hW hS => ?_)
                          obtain ⟨hq_328a, hq_328b⟩ := hq_328
                          rw [hq_328b] at hW
                          rw [hq_328a]
                          rw [show (zf_pe (b + 1) (xr_up M s.heap.size (zw_r (b + 1) M (k29 + 1))) k29 2) = (-6) from ((zg_pe (hgr _) (show k29 < 24 by omega) 2).trans hpl)]
                          refine lv_if_lt (tgt := 253) hx hb dL_isWell_246 (by decide) (fun c_330 => ?_) (fun c_330 => ?_)
                          · refine lv_iconst (v := (nI 0)) hx hb dL_isWell_253 (by decide) ?_
                            refine lv_icmp_ne (tgt := 281) hx hb dL_isWell_254 (by decide) (fun c_331 => ?_) (fun c_331 => ?_)
                            · exact absurd c_331 (fun z => z rfl)
                            · refine lv_aload_n hx hb dL_isWell_257 rfl (lv_at hl 11 rfl) ?_
                              refine lv_iload hx hb dL_isWell_258 (lv_at hl 5 rfl) ?_
                              refine lv_iconst (v := (nI 3)) hx hb dL_isWell_260 (by decide) ?_
                              refine xc_i (xr_V (As := [.int (nI k29), .int (nI 3)]) (rest := []) (κ := 16) ⟨hx, hb, hml, hown, hts⟩ (cz_person l O (xr_up M s.heap.size (zw_r (b + 1) M (k29 + 1))) b tb2 (hzr _) (k := k29) (jj := 3) hk29 (by omega)) (cwV 2 hts gL_isWell_X6_person rfl rfl rfl (by decide +kernel) ⟨Nat.le_of_ble_eq_true rfl, Nat.le_of_ble_eq_true rfl⟩) hK hst hnw hS hW tb2 (by decide) rfl rfl rfl hl.1 rfl (Nat.le_of_ble_eq_true rfl) dL_isWell_261 ⟨Nat.le_of_ble_eq_true rfl, Nat.le_of_ble_eq_true rfl⟩) hS (fun r_334 M_332 H locs hq_333 hW hS => ?_)
                              obtain ⟨hq_333a, hq_333b⟩ := hq_333
                              rw [hq_333b] at hW
                              rw [hq_333a]
                              rw [show (zf_pe (b + 1) (xr_up M s.heap.size (zw_r (b + 1) M (k29 + 1))) k29 3) = (nI 0) from ((zg_pe (hgr _) (show k29 < 24 by omega) 3).trans (zh_0 ph))]
                              refine lv_if_eq (tgt := 277) hx hb dL_isWell_264 (by decide) (fun c_335 => ?_) (fun c_335 => ?_)
                              · refine lv_iconst (v := (nI 1)) hx hb dL_isWell_277 (by decide) ?_
                                refine lv_goto (tgt := 282) hx hb dL_isWell_278 (by decide) ?_
                                refine lv_istore (lv' := [(9, .int (nI 1)), (7, .int ((xf_sum (fun i => M (b + 1 + 2 * i + 34) 4) k29) + (M (b + 1 + 2 * k29 + 34) 4))), (4, .int ((xf_sum (fun i => M (b + 1 + 2 * i + 34) 9) k29) + (M (b + 1 + 2 * k29 + 34) 9))), (3, .int ((xf_sum (fun i => M (b + 1 + 2 * i + 34) 7) k29) + (M (b + 1 + 2 * k29 + 34) 7))), (1, .int ((xf_sum (fun i => zm_h (M (b + 1 + 2 * i + 34) 5)) k29) + (zm_h (M (b + 1 + 2 * k29 + 34) 5)))), (11, .int (nI 2)), (10, .int (nI k29)), (2, .int (nI 0)), (5, .int (nI 0)), (6, .int (nI 0)), (8, .ref s.heap.size), (0, .ref b)]) hx hb dL_isWell_282 hl (by decide) rfl (fun ls hl => ?_)
                                refine lv_iinc (v := (nI (k29 + 1))) (lv' := [(10, .int (nI (k29 + 1))), (9, .int (nI 1)), (7, .int ((xf_sum (fun i => M (b + 1 + 2 * i + 34) 4) k29) + (M (b + 1 + 2 * k29 + 34) 4))), (4, .int ((xf_sum (fun i => M (b + 1 + 2 * i + 34) 9) k29) + (M (b + 1 + 2 * k29 + 34) 9))), (3, .int ((xf_sum (fun i => M (b + 1 + 2 * i + 34) 7) k29) + (M (b + 1 + 2 * k29 + 34) 7))), (1, .int ((xf_sum (fun i => zm_h (M (b + 1 + 2 * i + 34) 5)) k29) + (zm_h (M (b + 1 + 2 * k29 + 34) 5)))), (11, .int (nI 2)), (2, .int (nI 0)), (5, .int (nI 0)), (6, .int (nI 0)), (8, .ref s.heap.size), (0, .ref b)]) hx hb dL_isWell_284 hl (k := 6) rfl ((nI_1 k29)) (by decide) rfl (fun ls hl => ?_)
                                refine lv_goto (tgt := 29) hx hb dL_isWell_287 (by decide) ?_
                                exact ih29 () _ _ _ ⟨hW, hS, lv_sub hl [0, 7, 8, 9, 5, 4, 3, 2, 10, 1, 11] rfl, trivial⟩
                              · exact absurd rfl c_335
                          · exact absurd (by decide) c_330
                        · exact absurd c_326 (by decide)
          · exact absurd (nI_le (by omega) (by omega)) c_298
      · have hza := zs_n2 (M := M) (p := (b + 1 + 2 * k29 + 34)) (Or.inr pw)
        have hpl := zw_pl1 hz hk29 (by rw [pw]; decide)
        refine lv_aload_n hx hb dL_isWell_39 rfl (lv_at hl 10 rfl) ?_
        refine lv_iload hx hb dL_isWell_40 (lv_at hl 0 rfl) ?_
        refine lv_iconst (v := (nI 0)) hx hb dL_isWell_42 (by decide) ?_
        refine xc_i (xr_V (As := [.int (nI k29), .int (nI 0)]) (rest := []) (κ := 16) ⟨hx, hb, hml, hown, hts⟩ (cz_person l O (xr_up M s.heap.size (zw_r (b + 1) M k29)) b tb2 (hzr _) (k := k29) (jj := 0) hk29 (by omega)) (cwV 2 hts gL_isWell_X6_person rfl rfl rfl (by decide +kernel) ⟨Nat.le_of_ble_eq_true rfl, Nat.le_of_ble_eq_true rfl⟩) hK hst hnw hS hW tb2 (by decide) rfl rfl rfl hl.1 rfl (Nat.le_of_ble_eq_true rfl) dL_isWell_43 ⟨Nat.le_of_ble_eq_true rfl, Nat.le_of_ble_eq_true rfl⟩) hS (fun r_338 M_336 H locs hq_337 hW hS => ?_)
        obtain ⟨hq_337a, hq_337b⟩ := hq_337
        rw [hq_337b] at hW
        rw [hq_337a]
        rw [show (zf_pe (b + 1) (xr_up M s.heap.size (zw_r (b + 1) M k29)) k29 0) = (nI 3) from ((zg_pe (hgr _) (show k29 < 24 by omega) 0).trans pw)]
        refine lv_istore (lv' := [(11, .int (nI 3)), (10, .int (nI k29)), (2, .int (nI 0)), (5, .int (nI 0)), (6, .int (nI 0)), (1, .int (xf_sum (fun i => zm_h (M (b + 1 + 2 * i + 34) 5)) k29)), (3, .int (xf_sum (fun i => M (b + 1 + 2 * i + 34) 7) k29)), (4, .int (xf_sum (fun i => M (b + 1 + 2 * i + 34) 9) k29)), (7, .int (xf_sum (fun i => M (b + 1 + 2 * i + 34) 4) k29)), (8, .ref s.heap.size), (9, .int (nI 1)), (0, .ref b)]) hx hb dL_isWell_46 hl (by decide) rfl (fun ls hl => ?_)
        refine lv_aload hx hb dL_isWell_48 (lv_at hl 9 rfl) ?_
        refine lv_iload hx hb dL_isWell_50 (lv_at hl 0 rfl) ?_
        refine lv_dup2_11 hx hb dL_isWell_52 rfl rfl ?_
        refine xg_iald (κ := 104) (n := 4) hx hb hK hW zt_xs (by decide) rfl 3 rfl (by decide) (by decide) dL_isWell_53 ?_
        refine lv_iconst (v := (nI 1)) hx hb dL_isWell_54 (by decide) ?_
        refine lv_iadd hx hb dL_isWell_55 ?_
        refine xg_iast (κ := 104) (n := 4) hx hb hK O hW hS zt_xs (by decide) (fun _ => rfl) (fun _ => trivial) 3 rfl (by decide) (by decide) dL_isWell_56 (fun H locs hW hS => ?_)
        obtain ⟨M_339, eM_339⟩ : ∃ M9, M9 = xu_p (xr_up M s.heap.size (zw_r (b + 1) M k29)) s.heap.size 3 (((xr_up M s.heap.size (zw_r (b + 1) M k29)) s.heap.size 3) + (nI 1)) := ⟨_, rfl⟩
        rw [← eM_339] at hW
        have eZ : M_339 = (xr_up M s.heap.size (zw_r (b + 1) M (k29 + 1))) := by rw [eM_339]; unfold xu_p; rw [xr_s, zx_2]; exact congrArg (xr_up M s.heap.size) (zw_r1 pw (by omega))
        rw [eZ] at hW
        refine lv_iload_n hx hb dL_isWell_57 rfl (lv_at hl 5 rfl) ?_
        refine lv_aload_n hx hb dL_isWell_58 rfl (lv_at hl 11 rfl) ?_
        refine lv_iload hx hb dL_isWell_59 (lv_at hl 1 rfl) ?_
        refine lv_iconst (v := (nI 3)) hx hb dL_isWell_61 (by decide) ?_
        refine xc_i (xr_V (As := [.int (nI k29), .int (nI 3)]) (rest := [.int (xf_sum (fun i => zm_h (M (b + 1 + 2 * i + 34) 5)) k29)]) (κ := 16) ⟨hx, hb, hml, hown, hts⟩ (cz_person l O (xr_up M s.heap.size (zw_r (b + 1) M (k29 + 1))) b tb2 (hzr _) (k := k29) (jj := 3) hk29 (by omega)) (cwV 2 hts gL_isWell_X6_person rfl rfl rfl (by decide +kernel) ⟨Nat.le_of_ble_eq_true rfl, Nat.le_of_ble_eq_true rfl⟩) hK hst hnw hS hW tb2 (by decide) rfl rfl rfl hl.1 rfl (Nat.le_of_ble_eq_true rfl) dL_isWell_62 ⟨Nat.le_of_ble_eq_true rfl, Nat.le_of_ble_eq_true rfl⟩) hS (fun r_342 M_340 H locs hq_341 hW hS => ?_)
        obtain ⟨hq_341a, hq_341b⟩ := hq_341
        rw [hq_341b] at hW
        rw [hq_341a]
        rw [show (zf_pe (b + 1) (xr_up M s.heap.size (zw_r (b + 1) M (k29 + 1))) k29 3) = (zm_h (M (b + 1 + 2 * k29 + 34) 5)) from ((zg_pe (hgr _) (show k29 < 24 by omega) 3).trans rfl)]
        refine lv_iadd hx hb dL_isWell_65 ?_
        refine lv_istore_n (lv' := [(1, .int ((xf_sum (fun i => zm_h (M (b + 1 + 2 * i + 34) 5)) k29) + (zm_h (M (b + 1 + 2 * k29 + 34) 5)))), (11, .int (nI 3)), (10, .int (nI k29)), (2, .int (nI 0)), (5, .int (nI 0)), (6, .int (nI 0)), (3, .int (xf_sum (fun i => M (b + 1 + 2 * i + 34) 7) k29)), (4, .int (xf_sum (fun i => M (b + 1 + 2 * i + 34) 9) k29)), (7, .int (xf_sum (fun i => M (b + 1 + 2 * i + 34) 4) k29)), (8, .ref s.heap.size), (9, .int (nI 1)), (0, .ref b)]) hx hb dL_isWell_66 rfl hl (by decide) rfl (fun ls hl => ?_)
        refine lv_iload_n hx hb dL_isWell_67 rfl (lv_at hl 6 rfl) ?_
        refine lv_aload_n hx hb dL_isWell_68 rfl (lv_at hl 11 rfl) ?_
        refine lv_iload hx hb dL_isWell_69 (lv_at hl 2 rfl) ?_
        refine lv_bipush (v := (nI 6)) hx hb dL_isWell_71 (by decide) ?_
        refine xc_i (xr_V (As := [.int (nI k29), .int (nI 6)]) (rest := [.int (xf_sum (fun i => M (b + 1 + 2 * i + 34) 7) k29)]) (κ := 16) ⟨hx, hb, hml, hown, hts⟩ (cz_person l O (xr_up M s.heap.size (zw_r (b + 1) M (k29 + 1))) b tb2 (hzr _) (k := k29) (jj := 6) hk29 (by omega)) (cwV 2 hts gL_isWell_X6_person rfl rfl rfl (by decide +kernel) ⟨Nat.le_of_ble_eq_true rfl, Nat.le_of_ble_eq_true rfl⟩) hK hst hnw hS hW tb2 (by decide) rfl rfl rfl hl.1 rfl (Nat.le_of_ble_eq_true rfl) dL_isWell_73 ⟨Nat.le_of_ble_eq_true rfl, Nat.le_of_ble_eq_true rfl⟩) hS (fun r_345 M_343 H locs hq_344 hW hS => ?_)
        obtain ⟨hq_344a, hq_344b⟩ := hq_344
        rw [hq_344b] at hW
        rw [hq_344a]
        rw [show (zf_pe (b + 1) (xr_up M s.heap.size (zw_r (b + 1) M (k29 + 1))) k29 6) = (M (b + 1 + 2 * k29 + 34) 7) from ((zg_pe (hgr _) (show k29 < 24 by omega) 6).trans rfl)]
        refine lv_iadd hx hb dL_isWell_76 ?_
        refine lv_istore_n (lv' := [(3, .int ((xf_sum (fun i => M (b + 1 + 2 * i + 34) 7) k29) + (M (b + 1 + 2 * k29 + 34) 7))), (1, .int ((xf_sum (fun i => zm_h (M (b + 1 + 2 * i + 34) 5)) k29) + (zm_h (M (b + 1 + 2 * k29 + 34) 5)))), (11, .int (nI 3)), (10, .int (nI k29)), (2, .int (nI 0)), (5, .int (nI 0)), (6, .int (nI 0)), (4, .int (xf_sum (fun i => M (b + 1 + 2 * i + 34) 9) k29)), (7, .int (xf_sum (fun i => M (b + 1 + 2 * i + 34) 4) k29)), (8, .ref s.heap.size), (9, .int (nI 1)), (0, .ref b)]) hx hb dL_isWell_77 rfl hl (by decide) rfl (fun ls hl => ?_)
        refine lv_iload hx hb dL_isWell_78 (lv_at hl 7 rfl) ?_
        refine lv_aload_n hx hb dL_isWell_80 rfl (lv_at hl 11 rfl) ?_
        refine lv_iload hx hb dL_isWell_81 (lv_at hl 3 rfl) ?_
        refine lv_bipush (v := (nI 7)) hx hb dL_isWell_83 (by decide) ?_
        refine xc_i (xr_V (As := [.int (nI k29), .int (nI 7)]) (rest := [.int (xf_sum (fun i => M (b + 1 + 2 * i + 34) 9) k29)]) (κ := 16) ⟨hx, hb, hml, hown, hts⟩ (cz_person l O (xr_up M s.heap.size (zw_r (b + 1) M (k29 + 1))) b tb2 (hzr _) (k := k29) (jj := 7) hk29 (by omega)) (cwV 2 hts gL_isWell_X6_person rfl rfl rfl (by decide +kernel) ⟨Nat.le_of_ble_eq_true rfl, Nat.le_of_ble_eq_true rfl⟩) hK hst hnw hS hW tb2 (by decide) rfl rfl rfl hl.1 rfl (Nat.le_of_ble_eq_true rfl) dL_isWell_85 ⟨Nat.le_of_ble_eq_true rfl, Nat.le_of_ble_eq_true rfl⟩) hS (fun r_348 M_346 H locs hq_347 hW hS => ?_)
        obtain ⟨hq_347a, hq_347b⟩ := hq_347
        rw [hq_347b] at hW
        rw [hq_347a]
        rw [show (zf_pe (b + 1) (xr_up M s.heap.size (zw_r (b + 1) M (k29 + 1))) k29 7) = (M (b + 1 + 2 * k29 + 34) 9) from ((zg_pe (hgr _) (show k29 < 24 by omega) 7).trans rfl)]
        refine lv_iadd hx hb dL_isWell_88 ?_
        refine lv_istore (lv' := [(4, .int ((xf_sum (fun i => M (b + 1 + 2 * i + 34) 9) k29) + (M (b + 1 + 2 * k29 + 34) 9))), (3, .int ((xf_sum (fun i => M (b + 1 + 2 * i + 34) 7) k29) + (M (b + 1 + 2 * k29 + 34) 7))), (1, .int ((xf_sum (fun i => zm_h (M (b + 1 + 2 * i + 34) 5)) k29) + (zm_h (M (b + 1 + 2 * k29 + 34) 5)))), (11, .int (nI 3)), (10, .int (nI k29)), (2, .int (nI 0)), (5, .int (nI 0)), (6, .int (nI 0)), (7, .int (xf_sum (fun i => M (b + 1 + 2 * i + 34) 4) k29)), (8, .ref s.heap.size), (9, .int (nI 1)), (0, .ref b)]) hx hb dL_isWell_89 hl (by decide) rfl (fun ls hl => ?_)
        refine lv_iload hx hb dL_isWell_91 (lv_at hl 8 rfl) ?_
        refine lv_aload_n hx hb dL_isWell_93 rfl (lv_at hl 11 rfl) ?_
        refine lv_iload hx hb dL_isWell_94 (lv_at hl 4 rfl) ?_
        refine lv_iconst (v := (nI 4)) hx hb dL_isWell_96 (by decide) ?_
        refine xc_i (xr_V (As := [.int (nI k29), .int (nI 4)]) (rest := [.int (xf_sum (fun i => M (b + 1 + 2 * i + 34) 4) k29)]) (κ := 16) ⟨hx, hb, hml, hown, hts⟩ (cz_person l O (xr_up M s.heap.size (zw_r (b + 1) M (k29 + 1))) b tb2 (hzr _) (k := k29) (jj := 4) hk29 (by omega)) (cwV 2 hts gL_isWell_X6_person rfl rfl rfl (by decide +kernel) ⟨Nat.le_of_ble_eq_true rfl, Nat.le_of_ble_eq_true rfl⟩) hK hst hnw hS hW tb2 (by decide) rfl rfl rfl hl.1 rfl (Nat.le_of_ble_eq_true rfl) dL_isWell_97 ⟨Nat.le_of_ble_eq_true rfl, Nat.le_of_ble_eq_true rfl⟩) hS (fun r_351 M_349 H locs hq_350 hW hS => ?_)
        obtain ⟨hq_350a, hq_350b⟩ := hq_350
        rw [hq_350b] at hW
        rw [hq_350a]
        rw [show (zf_pe (b + 1) (xr_up M s.heap.size (zw_r (b + 1) M (k29 + 1))) k29 4) = (M (b + 1 + 2 * k29 + 34) 4) from ((zg_pe (hgr _) (show k29 < 24 by omega) 4).trans rfl)]
        refine lv_iadd hx hb dL_isWell_100 ?_
        refine lv_istore (lv' := [(7, .int ((xf_sum (fun i => M (b + 1 + 2 * i + 34) 4) k29) + (M (b + 1 + 2 * k29 + 34) 4))), (4, .int ((xf_sum (fun i => M (b + 1 + 2 * i + 34) 9) k29) + (M (b + 1 + 2 * k29 + 34) 9))), (3, .int ((xf_sum (fun i => M (b + 1 + 2 * i + 34) 7) k29) + (M (b + 1 + 2 * k29 + 34) 7))), (1, .int ((xf_sum (fun i => zm_h (M (b + 1 + 2 * i + 34) 5)) k29) + (zm_h (M (b + 1 + 2 * k29 + 34) 5)))), (11, .int (nI 3)), (10, .int (nI k29)), (2, .int (nI 0)), (5, .int (nI 0)), (6, .int (nI 0)), (8, .ref s.heap.size), (9, .int (nI 1)), (0, .ref b)]) hx hb dL_isWell_101 hl (by decide) rfl (fun ls hl => ?_)
        refine lv_iload hx hb dL_isWell_103 (lv_at hl 10 rfl) ?_
        refine lv_if_eq (tgt := 281) hx hb dL_isWell_105 (by decide) (fun c_352 => ?_) (fun c_352 => ?_)
        · exact absurd c_352 (by decide)
        · refine lv_iload hx hb dL_isWell_108 (lv_at hl 4 rfl) ?_
          refine lv_iconst (v := (nI 2)) hx hb dL_isWell_110 (by decide) ?_
          refine lv_icmp_ge (tgt := 157) hx hb dL_isWell_111 (by decide) (fun c_353 => ?_) (fun c_353 => ?_)
          · refine lv_aload_n hx hb dL_isWell_157 rfl (lv_at hl 11 rfl) ?_
            refine lv_iload hx hb dL_isWell_158 (lv_at hl 5 rfl) ?_
            refine lv_iconst (v := (nI 1)) hx hb dL_isWell_160 (by decide) ?_
            refine xc_i (xr_V (As := [.int (nI k29), .int (nI 1)]) (rest := []) (κ := 16) ⟨hx, hb, hml, hown, hts⟩ (cz_person l O (xr_up M s.heap.size (zw_r (b + 1) M (k29 + 1))) b tb2 (hzr _) (k := k29) (jj := 1) hk29 (by omega)) (cwV 2 hts gL_isWell_X6_person rfl rfl rfl (by decide +kernel) ⟨Nat.le_of_ble_eq_true rfl, Nat.le_of_ble_eq_true rfl⟩) hK hst hnw hS hW tb2 (by decide) rfl rfl rfl hl.1 rfl (Nat.le_of_ble_eq_true rfl) dL_isWell_161 ⟨Nat.le_of_ble_eq_true rfl, Nat.le_of_ble_eq_true rfl⟩) hS (fun r_356 M_354 H locs hq_355 hW hS => ?_)
            obtain ⟨hq_355a, hq_355b⟩ := hq_355
            rw [hq_355b] at hW
            rw [hq_355a]
            rw [show (zf_pe (b + 1) (xr_up M s.heap.size (zw_r (b + 1) M (k29 + 1))) k29 1) = (-6) from ((zg_pe (hgr _) (show k29 < 24 by omega) 1).trans hza)]
            refine lv_bipush (v := (-6)) hx hb dL_isWell_164 (by decide) ?_
            refine lv_icmp_ne (tgt := 281) hx hb dL_isWell_166 (by decide) (fun c_357 => ?_) (fun c_357 => ?_)
            · exact absurd c_357 (fun z => z rfl)
            · refine lv_aload_n hx hb dL_isWell_169 rfl (lv_at hl 11 rfl) ?_
              refine lv_iload hx hb dL_isWell_170 (lv_at hl 5 rfl) ?_
              refine lv_iconst (v := (nI 3)) hx hb dL_isWell_172 (by decide) ?_
              refine xc_i (xr_V (As := [.int (nI k29), .int (nI 3)]) (rest := []) (κ := 16) ⟨hx, hb, hml, hown, hts⟩ (cz_person l O (xr_up M s.heap.size (zw_r (b + 1) M (k29 + 1))) b tb2 (hzr _) (k := k29) (jj := 3) hk29 (by omega)) (cwV 2 hts gL_isWell_X6_person rfl rfl rfl (by decide +kernel) ⟨Nat.le_of_ble_eq_true rfl, Nat.le_of_ble_eq_true rfl⟩) hK hst hnw hS hW tb2 (by decide) rfl rfl rfl hl.1 rfl (Nat.le_of_ble_eq_true rfl) dL_isWell_173 ⟨Nat.le_of_ble_eq_true rfl, Nat.le_of_ble_eq_true rfl⟩) hS (fun r_360 M_358 H locs hq_359 hW hS => ?_)
              obtain ⟨hq_359a, hq_359b⟩ := hq_359
              rw [hq_359b] at hW
              rw [hq_359a]
              rw [show (zf_pe (b + 1) (xr_up M s.heap.size (zw_r (b + 1) M (k29 + 1))) k29 3) = (nI 0) from ((zg_pe (hgr _) (show k29 < 24 by omega) 3).trans (zh_0 ph))]
              refine lv_if_ne (tgt := 281) hx hb dL_isWell_176 (by decide) (fun c_361 => ?_) (fun c_361 => ?_)
              · exact absurd c_361 (fun z => z rfl)
              · refine lv_aload_n hx hb dL_isWell_179 rfl (lv_at hl 11 rfl) ?_
                refine lv_iload hx hb dL_isWell_180 (lv_at hl 5 rfl) ?_
                refine lv_bipush (v := (nI 8)) hx hb dL_isWell_182 (by decide) ?_
                refine xc_i (xr_V (As := [.int (nI k29), .int (nI 8)]) (rest := []) (κ := 16) ⟨hx, hb, hml, hown, hts⟩ (cz_person l O (xr_up M s.heap.size (zw_r (b + 1) M (k29 + 1))) b tb2 (hzr _) (k := k29) (jj := 8) hk29 (by omega)) (cwV 2 hts gL_isWell_X6_person rfl rfl rfl (by decide +kernel) ⟨Nat.le_of_ble_eq_true rfl, Nat.le_of_ble_eq_true rfl⟩) hK hst hnw hS hW tb2 (by decide) rfl rfl rfl hl.1 rfl (Nat.le_of_ble_eq_true rfl) dL_isWell_184 ⟨Nat.le_of_ble_eq_true rfl, Nat.le_of_ble_eq_true rfl⟩) hS (fun r_364 M_362 H locs hq_363 hW hS => ?_)
                obtain ⟨hq_363a, hq_363b⟩ := hq_363
                rw [hq_363b] at hW
                rw [hq_363a]
                rw [show (zf_pe (b + 1) (xr_up M s.heap.size (zw_r (b + 1) M (k29 + 1))) k29 8) = (nI y) from ((zg_pe (hgr _) (show k29 < 24 by omega) 8).trans p10)]
                refine lv_if_lt (tgt := 281) hx hb dL_isWell_187 (by decide) (fun c_365 => ?_) (fun c_365 => ?_)
                · exact absurd c_365 (nI_pos (by omega))
                · refine lv_aload_n hx hb dL_isWell_190 rfl (lv_at hl 11 rfl) ?_
                  refine lv_iload hx hb dL_isWell_191 (lv_at hl 5 rfl) ?_
                  refine lv_bipush (v := (nI 8)) hx hb dL_isWell_193 (by decide) ?_
                  refine xc_i (xr_V (As := [.int (nI k29), .int (nI 8)]) (rest := []) (κ := 16) ⟨hx, hb, hml, hown, hts⟩ (cz_person l O (xr_up M s.heap.size (zw_r (b + 1) M (k29 + 1))) b tb2 (hzr _) (k := k29) (jj := 8) hk29 (by omega)) (cwV 2 hts gL_isWell_X6_person rfl rfl rfl (by decide +kernel) ⟨Nat.le_of_ble_eq_true rfl, Nat.le_of_ble_eq_true rfl⟩) hK hst hnw hS hW tb2 (by decide) rfl rfl rfl hl.1 rfl (Nat.le_of_ble_eq_true rfl) dL_isWell_195 ⟨Nat.le_of_ble_eq_true rfl, Nat.le_of_ble_eq_true rfl⟩) hS (fun r_368 M_366 H locs hq_367 hW hS => ?_)
                  obtain ⟨hq_367a, hq_367b⟩ := hq_367
                  rw [hq_367b] at hW
                  rw [hq_367a]
                  rw [show (zf_pe (b + 1) (xr_up M s.heap.size (zw_r (b + 1) M (k29 + 1))) k29 8) = (nI y) from ((zg_pe (hgr _) (show k29 < 24 by omega) 8).trans p10)]
                  refine lv_aload_n hx hb dL_isWell_198 rfl (lv_at hl 11 rfl) ?_
                  refine lv_iconst (v := (nI 3)) hx hb dL_isWell_199 (by decide) ?_
                  refine xc_i (xr_V (As := [.int (nI 3)]) (rest := [.int (nI y)]) (κ := 16) ⟨hx, hb, hml, hown, hts⟩ (cz_count l O (xr_up M s.heap.size (zw_r (b + 1) M (k29 + 1))) b tb2 (jj := 3) (by omega)) (cwV 1 hts gL_isWell_X6_count rfl rfl rfl (by decide +kernel) ⟨Nat.le_of_ble_eq_true rfl, Nat.le_of_ble_eq_true rfl⟩) hK hst hnw hS hW tb2 (by decide) rfl rfl rfl hl.1 rfl (Nat.le_of_ble_eq_true rfl) dL_isWell_200 ⟨Nat.le_of_ble_eq_true rfl, Nat.le_of_ble_eq_true rfl⟩) hS (fun r_371 M_369 H locs hq_370 hW hS => ?_)
                  obtain ⟨hq_370a, hq_370b⟩ := hq_370
                  rw [hq_370b] at hW
                  rw [hq_370a]
                  rw [show (zf_co (b + 1) (xr_up M s.heap.size (zw_r (b + 1) M (k29 + 1))) 3) = (nI TT) from ((zg_co (hgr _) 3).trans hz.1.2.2.1)]
                  refine lv_icmp_gt (tgt := 281) hx hb dL_isWell_203 (by decide) (fun c_372 => ?_) (fun c_372 => ?_)
                  · exact absurd c_372 (nI_nlt py (by omega))
                  · refine lv_iload hx hb dL_isWell_206 (lv_at hl 4 rfl) ?_
                    refine lv_iconst (v := (nI 2)) hx hb dL_isWell_208 (by decide) ?_
                    refine lv_icmp_ne (tgt := 229) hx hb dL_isWell_209 (by decide) (fun c_373 => ?_) (fun c_373 => ?_)
                    · refine lv_iload hx hb dL_isWell_229 (lv_at hl 4 rfl) ?_
                      refine lv_if_ne (tgt := 238) hx hb dL_isWell_231 (by decide) (fun c_374 => ?_) (fun c_374 => ?_)
                      · refine lv_iconst (v := (nI 0)) hx hb dL_isWell_238 (by decide) ?_
                        refine lv_aload_n hx hb dL_isWell_239 rfl (lv_at hl 11 rfl) ?_
                        refine lv_iload hx hb dL_isWell_240 (lv_at hl 5 rfl) ?_
                        refine lv_iconst (v := (nI 2)) hx hb dL_isWell_242 (by decide) ?_
                        refine xc_i (xr_V (As := [.int (nI k29), .int (nI 2)]) (rest := [.int (nI 0)]) (κ := 16) ⟨hx, hb, hml, hown, hts⟩ (cz_person l O (xr_up M s.heap.size (zw_r (b + 1) M (k29 + 1))) b tb2 (hzr _) (k := k29) (jj := 2) hk29 (by omega)) (cwV 2 hts gL_isWell_X6_person rfl rfl rfl (by decide +kernel) ⟨Nat.le_of_ble_eq_true rfl, Nat.le_of_ble_eq_true rfl⟩) hK hst hnw hS hW tb2 (by decide) rfl rfl rfl hl.1 rfl (Nat.le_of_ble_eq_true rfl) dL_isWell_243 ⟨Nat.le_of_ble_eq_true rfl, Nat.le_of_ble_eq_true rfl⟩) hS (fun r_377 M_375 H locs hq_376 hW hS => ?_)
                        obtain ⟨hq_376a, hq_376b⟩ := hq_376
                        rw [hq_376b] at hW
                        rw [hq_376a]
                        rw [show (zf_pe (b + 1) (xr_up M s.heap.size (zw_r (b + 1) M (k29 + 1))) k29 2) = (-6) from ((zg_pe (hgr _) (show k29 < 24 by omega) 2).trans hpl)]
                        refine lv_if_lt (tgt := 253) hx hb dL_isWell_246 (by decide) (fun c_378 => ?_) (fun c_378 => ?_)
                        · refine lv_iconst (v := (nI 0)) hx hb dL_isWell_253 (by decide) ?_
                          refine lv_icmp_ne (tgt := 281) hx hb dL_isWell_254 (by decide) (fun c_379 => ?_) (fun c_379 => ?_)
                          · exact absurd c_379 (fun z => z rfl)
                          · refine lv_aload_n hx hb dL_isWell_257 rfl (lv_at hl 11 rfl) ?_
                            refine lv_iload hx hb dL_isWell_258 (lv_at hl 5 rfl) ?_
                            refine lv_iconst (v := (nI 3)) hx hb dL_isWell_260 (by decide) ?_
                            refine xc_i (xr_V (As := [.int (nI k29), .int (nI 3)]) (rest := []) (κ := 16) ⟨hx, hb, hml, hown, hts⟩ (cz_person l O (xr_up M s.heap.size (zw_r (b + 1) M (k29 + 1))) b tb2 (hzr _) (k := k29) (jj := 3) hk29 (by omega)) (cwV 2 hts gL_isWell_X6_person rfl rfl rfl (by decide +kernel) ⟨Nat.le_of_ble_eq_true rfl, Nat.le_of_ble_eq_true rfl⟩) hK hst hnw hS hW tb2 (by decide) rfl rfl rfl hl.1 rfl (Nat.le_of_ble_eq_true rfl) dL_isWell_261 ⟨Nat.le_of_ble_eq_true rfl, Nat.le_of_ble_eq_true rfl⟩) hS (fun r_382 M_380 H locs hq_381 hW hS => ?_)
                            obtain ⟨hq_381a, hq_381b⟩ := hq_381
                            rw [hq_381b] at hW
                            rw [hq_381a]
                            rw [show (zf_pe (b + 1) (xr_up M s.heap.size (zw_r (b + 1) M (k29 + 1))) k29 3) = (nI 0) from ((zg_pe (hgr _) (show k29 < 24 by omega) 3).trans (zh_0 ph))]
                            refine lv_if_eq (tgt := 277) hx hb dL_isWell_264 (by decide) (fun c_383 => ?_) (fun c_383 => ?_)
                            · refine lv_iconst (v := (nI 1)) hx hb dL_isWell_277 (by decide) ?_
                              refine lv_goto (tgt := 282) hx hb dL_isWell_278 (by decide) ?_
                              refine lv_istore (lv' := [(9, .int (nI 1)), (7, .int ((xf_sum (fun i => M (b + 1 + 2 * i + 34) 4) k29) + (M (b + 1 + 2 * k29 + 34) 4))), (4, .int ((xf_sum (fun i => M (b + 1 + 2 * i + 34) 9) k29) + (M (b + 1 + 2 * k29 + 34) 9))), (3, .int ((xf_sum (fun i => M (b + 1 + 2 * i + 34) 7) k29) + (M (b + 1 + 2 * k29 + 34) 7))), (1, .int ((xf_sum (fun i => zm_h (M (b + 1 + 2 * i + 34) 5)) k29) + (zm_h (M (b + 1 + 2 * k29 + 34) 5)))), (11, .int (nI 3)), (10, .int (nI k29)), (2, .int (nI 0)), (5, .int (nI 0)), (6, .int (nI 0)), (8, .ref s.heap.size), (0, .ref b)]) hx hb dL_isWell_282 hl (by decide) rfl (fun ls hl => ?_)
                              refine lv_iinc (v := (nI (k29 + 1))) (lv' := [(10, .int (nI (k29 + 1))), (9, .int (nI 1)), (7, .int ((xf_sum (fun i => M (b + 1 + 2 * i + 34) 4) k29) + (M (b + 1 + 2 * k29 + 34) 4))), (4, .int ((xf_sum (fun i => M (b + 1 + 2 * i + 34) 9) k29) + (M (b + 1 + 2 * k29 + 34) 9))), (3, .int ((xf_sum (fun i => M (b + 1 + 2 * i + 34) 7) k29) + (M (b + 1 + 2 * k29 + 34) 7))), (1, .int ((xf_sum (fun i => zm_h (M (b + 1 + 2 * i + 34) 5)) k29) + (zm_h (M (b + 1 + 2 * k29 + 34) 5)))), (11, .int (nI 3)), (2, .int (nI 0)), (5, .int (nI 0)), (6, .int (nI 0)), (8, .ref s.heap.size), (0, .ref b)]) hx hb dL_isWell_284 hl (k := 6) rfl ((nI_1 k29)) (by decide) rfl (fun ls hl => ?_)
                              refine lv_goto (tgt := 29) hx hb dL_isWell_287 (by decide) ?_
                              exact ih29 () _ _ _ ⟨hW, hS, lv_sub hl [0, 7, 8, 9, 5, 4, 3, 2, 10, 1, 11] rfl, trivial⟩
                            · exact absurd rfl c_383
                        · exact absurd (by decide) c_378
                      · exact absurd c_374 (by decide)
                    · exact absurd c_373 (by decide)
          · exact absurd (nI_le (by omega) (by omega)) c_353
