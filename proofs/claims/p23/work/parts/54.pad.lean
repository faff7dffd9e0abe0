/-- the number c without its lowest i characters; the character there, as a char -/
abbrev xc_r (c : Int64) (i : Int32) : Int64 := (c.toUInt64 >>> ((nI 8 * i).toInt64.toUInt64 &&& Int64.toUInt64 63)).toInt64
abbrev xc_c (c : Int64) (i : Int32) : Int32 := ((xc_r c i &&& (255 : Int64)).toInt32.toUInt32 % 65536).toInt32
def xc_go (c : Int64) : Nat → Nat → Int32
  | 0, k => nI k
  | n + 1, k => if lg_cmp (xc_r c (nI k)) (0 : Int64) = 0 then nI k else if lg_cmp (xc_r c (nI k) &&& (255 : Int64)) (33 : Int64) < 0 then nI 0 else if lg_cmp (xc_r c (nI k) &&& (255 : Int64)) (126 : Int64) ≤ 0 then xc_go c n (k + 1) else nI 0
/-- how many characters a number gives -/
def xc_n (c : Int64) : Int32 := xc_go c 8 0
theorem xc_go_le (c : Int64) : ∀ (n k : Nat), ∃ j, j ≤ n + k ∧ xc_go c n k = nI j
  | 0, k => ⟨k, by omega, rfl⟩
  | n + 1, k => by
    rw [xc_go]
    by_cases h1 : lg_cmp (xc_r c (nI k)) (0 : Int64) = 0
    · rw [if_pos h1]; exact ⟨k, by omega, rfl⟩
    · rw [if_neg h1]
      by_cases h2 : lg_cmp (xc_r c (nI k) &&& (255 : Int64)) (33 : Int64) < 0
      · rw [if_pos h2]; exact ⟨0, by omega, rfl⟩
      · rw [if_neg h2]
        by_cases h3 : lg_cmp (xc_r c (nI k) &&& (255 : Int64)) (126 : Int64) ≤ 0
        · rw [if_pos h3]
          obtain ⟨j, hj, e⟩ := xc_go_le c n (k + 1)
          exact ⟨j, by omega, e⟩
        · rw [if_neg h3]; exact ⟨0, by omega, rfl⟩
theorem xi_dn {n k : Nat} (h : k < n) : nI (n - k) - nI 1 + (-1) = nI (n - (k + 1)) - nI 1 := by
  obtain ⟨q, rfl⟩ : ∃ q, n = k + 1 + q := ⟨n - (k + 1), by omega⟩
  rw [show k + 1 + q - k = q + 1 by omega, show k + 1 + q - (k + 1) = q by omega, pk_sub (by omega), Nat.add_sub_cancel, Int32.sub_eq_add_neg]
  rfl
theorem xi_d0 {n : Nat} : nI (n - n) - nI 1 < 0 := by
  rw [Nat.sub_self]
  decide
theorem xi_d1 {n k : Nat} (h : k < n) : nI (n - k) - nI 1 = nI (n - 1 - k) := by
  rw [pk_sub (by omega)]
  congr 1
  omega
def xa_put (c : Int64) : Int32 := if xc_n c = 0 then -2 else xc_n c
/-- what append does to the pad at d: n characters of c behind the q that are there -/
def xf_app (M M' : xm_T) (d q n : Nat) (c : Int64) : Prop := M' d 1 = nI (q + n) ∧ (∀ j, j < q → M' (d + 1) j = M (d + 1) j) ∧ (∀ j, j < n → M' (d + 1) (q + j) = xc_c c (nI (n - 1 - j))) ∧ ∀ x, x ≠ d → x ≠ d + 1 → M' x = M x

set_option maxHeartbeats 4000000 in
set_option maxRecDepth 100000 in
/-- Pad.charactersIn(c) -/
theorem c_X3_charactersIn (l : Launch) {G : va_G} {g : Nat → ClassId} {t0 τ : Nat → Nat} {A : Nat → Prop} (O : xk_O τ A) (M : xm_T) (c0 : Int64) : Met l yX3_charactersIn wsX3_charactersIn ({ frames := 0, cells := 0, slots := 0, locals := 0 }) (va_Pc [.long c0] (xS_t G g t0 τ A M)) (va_Qi (fun r M' => r = xc_n c0 ∧ M' = M) (fun M' t => xw_D G g τ M' t.heap) A) 0 0 A := by
  refine Met.ofW (cc := cX3_charactersIn) (maxL := 8) (ret := (some .int)) (by decide) rfl ?_
  intro p e s m args below meth c s₁ B hml hv
  obtain ⟨rfl, hW, hK, hst, hnw⟩ := hv
  have hx := B.exec
  have hb := B.bytes
  have hr := B.returns
  have hts := atoms_spec (ws := wsX3_charactersIn) B.pre
  have hown : s.vm.findClass RX3 = some m.cls := findClass_of_methodNamed B.named
  have hlocks := B.notSynchronized
  have hS : va_S A s.heap s.heap [] := va_S.rf
  have hl := lv_entry ([.long c0]) (n := 8) (Nat.le_of_ble_eq_true rfl)
  rw [lg_entry_eq]
  generalize (lg_sl ([.long c0]) ++ List.replicate (8 - (lg_sl ([.long c0])).length) Slot.unset).toArray = ls at hl ⊢
  have hl : lv_has ls 8 [(0, .long c0)] := hl
  refine lv_iconst (v := (nI 0)) hx hb dX3_charactersIn_0 (by decide) ?_
  refine lv_istore_n (lv' := [(2, .int (nI 0)), (0, .long c0)]) hx hb dX3_charactersIn_1 rfl hl (by decide) rfl (fun ls hl => ?_)
  refine lv_iconst (v := (nI 0)) hx hb dX3_charactersIn_2 (by decide) ?_
  refine lv_istore_n (lv' := [(3, .int (nI 0)), (2, .int (nI 0)), (0, .long c0)]) hx hb dX3_charactersIn_3 rfl hl (by decide) rfl (fun ls hl => ?_)
  refine xl_up (σ := Unit) 8 (fun kk zz H locs ls => xw_D G g τ M H ∧ va_S A s.heap H locs ∧ lv_has ls 8 [(3, .int (nI kk)), (2, .int (nI kk)), (0, .long c0)] ∧ xc_n c0 = xc_go c0 (8 - kk) kk) (fun z4 H locs ls hI => ?_) (fun k4 z4 H locs ls hk4 hI ih4 => ?_) (k0 := 0) (z0 := ()) (Nat.zero_le _) ⟨hW, hS, lv_sub hl [0, 1, 2] rfl, rfl⟩
  · obtain ⟨hW, hS, hl, hE4⟩ := hI
    refine lv_iload_n hx hb dX3_charactersIn_4 rfl (lv_at hl 0 rfl) ?_
    refine lv_bipush (v := (nI 8)) hx hb dX3_charactersIn_5 (by decide) ?_
    refine lv_icmp_ge (tgt := 64) hx hb dX3_charactersIn_7 (by decide) (fun c_1 => ?_) (fun c_1 => ?_)
    · refine lv_iload_n hx hb dX3_charactersIn_64 rfl (lv_at hl 1 rfl) ?_
      exact W.iret (v := (nI 8)) hx hb hr (fun t ht hWm => ⟨⟨(nI 8), M, rfl, ⟨hE4.symm, rfl⟩, xw_end ht hW⟩, hS.F ht⟩) hS.2.2 dX3_charactersIn_65
    · exact absurd (nI_le (Nat.le_refl _) (by decide)) c_1
  · obtain ⟨hW, hS, hl, hE4⟩ := hI
    obtain ⟨n, hn⟩ : ∃ n, 8 - k4 = n + 1 := ⟨7 - k4, by omega⟩
    rw [hn] at hE4
    refine lv_iload_n hx hb dX3_charactersIn_4 rfl (lv_at hl 0 rfl) ?_
    refine lv_bipush (v := (nI 8)) hx hb dX3_charactersIn_5 (by decide) ?_
    refine lv_icmp_ge (tgt := 64) hx hb dX3_charactersIn_7 (by decide) (fun c_2 => ?_) (fun c_2 => ?_)
    · exact absurd c_2 (nI_ge hk4 (by decide))
    · refine lv_lload_n hx hb dX3_charactersIn_10 rfl (lv_at hl 2 rfl) ?_
      refine lv_bipush (v := (nI 8)) hx hb dX3_charactersIn_11 (by decide) ?_
      refine lv_iload_n hx hb dX3_charactersIn_13 rfl (lv_at hl 0 rfl) ?_
      refine lv_imul hx hb dX3_charactersIn_14 ?_
      refine lv_lushr (v := (c0.toUInt64 >>> (((nI 8) * (nI k4)).toInt64.toUInt64 &&& Int64.toUInt64 63)).toInt64) hx hb dX3_charactersIn_15 rfl ?_
      refine lv_lstore (lv' := [(4, .long (c0.toUInt64 >>> (((nI 8) * (nI k4)).toInt64.toUInt64 &&& Int64.toUInt64 63)).toInt64), (3, .int (nI k4)), (2, .int (nI k4)), (0, .long c0)]) hx hb dX3_charactersIn_16 hl (by decide) rfl (fun ls hl => ?_)
      refine lv_lload hx hb dX3_charactersIn_18 (lv_at hl 0 rfl) ?_
      refine lv_lconst (v := 0) hx hb dX3_charactersIn_20 rfl ?_
      refine W.lcmp hx hb dX3_charactersIn_21 ?_
      refine lv_if_ne (tgt := 27) hx hb dX3_charactersIn_22 (by decide) (fun c_4 => ?_) (fun c_4 => ?_)
      · refine lv_lload hx hb dX3_charactersIn_27 (lv_at hl 0 rfl) ?_
        refine lv_ldc2 (v := 255) hx hb hown (hts (.constantLong RX3 15 (255)) (List.mem_of_getElem? (i := 1) (by decide +kernel))) dX3_charactersIn_29 ?_
        refine lv_land hx hb dX3_charactersIn_32 ?_
        refine lv_lstore (lv' := [(6, .long ((c0.toUInt64 >>> (((nI 8) * (nI k4)).toInt64.toUInt64 &&& Int64.toUInt64 63)).toInt64 &&& (255 : Int64))), (4, .long (c0.toUInt64 >>> (((nI 8) * (nI k4)).toInt64.toUInt64 &&& Int64.toUInt64 63)).toInt64), (3, .int (nI k4)), (2, .int (nI k4)), (0, .long c0)]) hx hb dX3_charactersIn_33 hl (by decide) rfl (fun ls hl => ?_)
        refine lv_lload hx hb dX3_charactersIn_35 (lv_at hl 0 rfl) ?_
        refine lv_ldc2 (v := 33) hx hb hown (hts (.constantLong RX3 17 (33)) (List.mem_of_getElem? (i := 2) (by decide +kernel))) dX3_charactersIn_37 ?_
        refine W.lcmp hx hb dX3_charactersIn_40 ?_
        refine lv_if_lt (tgt := 53) hx hb dX3_charactersIn_41 (by decide) (fun c_6 => ?_) (fun c_6 => ?_)
        · refine lv_iconst (v := (nI 0)) hx hb dX3_charactersIn_53 (by decide) ?_
          exact W.iret (v := (nI 0)) hx hb hr (fun t ht hWm => ⟨⟨(nI 0), M, rfl, ⟨(by rw [hE4, xc_go, if_neg c_4, if_pos c_6]), rfl⟩, xw_end ht hW⟩, hS.F ht⟩) hS.2.2 dX3_charactersIn_54
        · refine lv_lload hx hb dX3_charactersIn_44 (lv_at hl 0 rfl) ?_
          refine lv_ldc2 (v := 126) hx hb hown (hts (.constantLong RX3 19 (126)) (List.mem_of_getElem? (i := 3) (by decide +kernel))) dX3_charactersIn_46 ?_
          refine W.lcmp hx hb dX3_charactersIn_49 ?_
          refine lv_if_le (tgt := 55) hx hb dX3_charactersIn_50 (by decide) (fun c_8 => ?_) (fun c_8 => ?_)
          · refine lv_iinc (v := (nI (k4 + 1))) (lv' := [(2, .int (nI (k4 + 1))), (6, .long ((c0.toUInt64 >>> (((nI 8) * (nI k4)).toInt64.toUInt64 &&& Int64.toUInt64 63)).toInt64 &&& (255 : Int64))), (4, .long (c0.toUInt64 >>> (((nI 8) * (nI k4)).toInt64.toUInt64 &&& Int64.toUInt64 63)).toInt64), (3, .int (nI k4)), (0, .long c0)]) hx hb dX3_charactersIn_55 hl (k := 3) rfl ((nI_1 k4)) (by decide) rfl (fun ls hl => ?_)
            refine lv_iinc (v := (nI (k4 + 1))) (lv' := [(3, .int (nI (k4 + 1))), (2, .int (nI (k4 + 1))), (6, .long ((c0.toUInt64 >>> (((nI 8) * (nI k4)).toInt64.toUInt64 &&& Int64.toUInt64 63)).toInt64 &&& (255 : Int64))), (4, .long (c0.toUInt64 >>> (((nI 8) * (nI k4)).toInt64.toUInt64 &&& Int64.toUInt64 63)).toInt64), (0, .long c0)]) hx hb dX3_charactersIn_58 hl (k := 3) rfl ((nI_1 k4)) (by decide) rfl (fun ls hl => ?_)
            refine lv_goto (tgt := 4) hx hb dX3_charactersIn_61 (by decide) ?_
            exact ih4 () _ _ _ ⟨hW, hS, lv_sub hl [0, 1, 4] rfl, (by rw [show 8 - (k4 + 1) = n by omega, hE4, xc_go, if_neg c_4, if_neg c_6, if_pos c_8])⟩
          · refine lv_iconst (v := (nI 0)) hx hb dX3_charactersIn_53 (by decide) ?_
            exact W.iret (v := (nI 0)) hx hb hr (fun t ht hWm => ⟨⟨(nI 0), M, rfl, ⟨(by rw [hE4, xc_go, if_neg c_4, if_neg c_6, if_neg c_8]), rfl⟩, xw_end ht hW⟩, hS.F ht⟩) hS.2.2 dX3_charactersIn_54
      · refine lv_iload_n hx hb dX3_charactersIn_25 rfl (lv_at hl 2 rfl) ?_
        exact W.iret (v := (nI k4)) hx hb hr (fun t ht hWm => ⟨⟨(nI k4), M, rfl, ⟨(by rw [hE4, xc_go, if_pos c_4]), rfl⟩, xw_end ht hW⟩, hS.F ht⟩) hS.2.2 dX3_charactersIn_26

set_option maxHeartbeats 4000000 in
set_option maxRecDepth 100000 in
/-- Pad.append(c, n) -/
theorem c_X3_append (l : Launch) {G : va_G} {g : Nat → ClassId} {t0 τ : Nat → Nat} {A : Nat → Prop} (O : xk_O τ A) (M : xm_T) (d : Nat) (hτ : τ d = 14) (c0 : Int64) {q n : Nat} (hqn : q + n ≤ 60) (hM : M d 1 = nI q) : Met l yX3_append wsX3_append ({ frames := 0, cells := 0, slots := 0, locals := 0 }) (va_Pc [.ref d, .long c0, .int (nI n)] (xS_t G g t0 τ A M)) (va_Qv (fun M' => xf_app M M' d q n c0) (fun M' t => xw_D G g τ M' t.heap) A) 0 0 A := by
  refine Met.ofW (cc := cX3_append) (maxL := 5) (ret := none) (by decide) rfl ?_
  intro p e s m args below meth c s₁ B hml hv
  obtain ⟨rfl, hW, hK, hst, hnw⟩ := hv
  have hx := B.exec
  have hb := B.bytes
  have hr := B.returns
  have hts := atoms_spec (ws := wsX3_append) B.pre
  have hown : s.vm.findClass RX3 = some m.cls := findClass_of_methodNamed B.named
  have hlocks := B.notSynchronized
  have hS : va_S A s.heap s.heap [] := va_S.rf
  have inX3 : ∀ w ∈ u_ws RX3 TX3 2, w ∈ wsX3_append := by decide +kernel
  have hl := lv_entry ([.ref d, .long c0, .int (nI n)]) (n := 5) (Nat.le_of_ble_eq_true rfl)
  rw [lg_entry_eq]
  generalize (lg_sl ([.ref d, .long c0, .int (nI n)]) ++ List.replicate (5 - (lg_sl ([.ref d, .long c0, .int (nI n)])).length) Slot.unset).toArray = ls at hl ⊢
  have hl : lv_has ls 5 [(0, .ref d), (1, .long c0), (3, .int (nI n))] := hl
  refine lv_iload_n hx hb dX3_append_0 rfl (lv_at hl 2 rfl) ?_
  refine lv_iconst (v := (nI 1)) hx hb dX3_append_1 (by decide) ?_
  refine lv_isub hx hb dX3_append_2 ?_
  refine lv_istore (lv' := [(4, .int ((nI n) - (nI 1))), (0, .ref d), (1, .long c0), (3, .int (nI n))]) hx hb dX3_append_3 hl (by decide) rfl (fun ls hl => ?_)
  refine xl_up (σ := xm_T) n (fun kk zz H locs ls => xw_D G g τ zz H ∧ va_S A s.heap H locs ∧ lv_has ls 5 [(4, .int ((nI (n - kk)) - (nI 1))), (0, .ref d), (1, .long c0), (3, .int (nI n))] ∧ zz d 1 = nI (q + kk) ∧ (∀ j, j < q → zz (d + 1) j = M (d + 1) j) ∧ (∀ j, j < kk → zz (d + 1) (q + j) = xc_c c0 (nI (n - 1 - j))) ∧ ∀ x, x ≠ d → x ≠ d + 1 → zz x = M x) (fun z5 H locs ls hI => ?_) (fun k5 z5 H locs ls hk5 hI ih5 => ?_) (k0 := 0) (z0 := M) (Nat.zero_le _) ⟨hW, hS, lv_sub hl [0, 1, 2, 3] rfl, ⟨hM, (fun _ _ => rfl), (fun j hj => absurd hj (Nat.not_lt_zero j)), fun _ _ _ => rfl⟩⟩
  · obtain ⟨hW, hS, hl, hE5⟩ := hI
    refine lv_iload hx hb dX3_append_5 (lv_at hl 0 rfl) ?_
    refine lv_if_lt (tgt := 60) hx hb dX3_append_7 (by decide) (fun c_1 => ?_) (fun c_1 => ?_)
    · exact W.vret hx hb hr (fun t ht hWm => ⟨⟨z5, rfl, hE5, xw_end ht hW⟩, hS.F ht⟩) hS.2.2 dX3_append_60
    · exact absurd xi_d0 c_1
  · obtain ⟨hW, hS, hl, hE5⟩ := hI
    refine lv_iload hx hb dX3_append_5 (lv_at hl 0 rfl) ?_
    refine lv_if_lt (tgt := 60) hx hb dX3_append_7 (by decide) (fun c_2 => ?_) (fun c_2 => ?_)
    · exact absurd c_2 (by rw [xi_d1 hk5]; exact nI_pos (by omega))
    · refine lv_aload_n hx hb dX3_append_10 rfl (lv_at hl 1 rfl) ?_
      refine xg_get (κ := 14) (ci := 3) (C := RX3) (T := TX3) (N := 2) hx hb hts inX3 hown hK hW hτ (by decide) rfl rfl 1 (by decide) (hts (.fieldLink RX3 21 "HalfTickets$Pad" "length" "I") (List.mem_of_getElem? (i := 1) (by decide +kernel))) (fun _ h9 => h9) rfl dX3_append_11 ?_
      refine lv_aload_n hx hb dX3_append_14 rfl (lv_at hl 1 rfl) ?_
      refine xg_get (κ := 14) (ci := 3) (C := RX3) (T := TX3) (N := 2) hx hb hts inX3 hown hK hW hτ (by decide) rfl rfl 0 (by decide) (hts (.fieldLink RX3 9 "HalfTickets$Pad" "text" "[C") (List.mem_of_getElem? (i := 2) (by decide +kernel))) (fun _ h9 => h9) rfl dX3_append_15 ?_
      refine xg_alen (κ := 15) (v := nI 60) hx hb hK hW (O.d hτ) (by decide) rfl 2 rfl rfl dX3_append_18 ?_
      refine lv_icmp_ge (tgt := 60) hx hb dX3_append_19 (by decide) (fun c_3 => ?_) (fun c_3 => ?_)
      · exact absurd c_3 (by rw [hE5.1]; exact nI_ge (by omega) (by decide))
      · refine lv_aload_n hx hb dX3_append_22 rfl (lv_at hl 1 rfl) ?_
        refine xg_get (κ := 14) (ci := 3) (C := RX3) (T := TX3) (N := 2) hx hb hts inX3 hown hK hW hτ (by decide) rfl rfl 0 (by decide) (hts (.fieldLink RX3 9 "HalfTickets$Pad" "text" "[C") (List.mem_of_getElem? (i := 2) (by decide +kernel))) (fun _ h9 => h9) rfl dX3_append_23 ?_
        refine lv_aload_n hx hb dX3_append_26 rfl (lv_at hl 1 rfl) ?_
        refine xg_get (κ := 14) (ci := 3) (C := RX3) (T := TX3) (N := 2) hx hb hts inX3 hown hK hW hτ (by decide) rfl rfl 1 (by decide) (hts (.fieldLink RX3 21 "HalfTickets$Pad" "length" "I") (List.mem_of_getElem? (i := 1) (by decide +kernel))) (fun _ h9 => h9) rfl dX3_append_27 ?_
        refine lv_lload_n hx hb dX3_append_30 rfl (lv_at hl 2 rfl) ?_
        refine lv_bipush (v := (nI 8)) hx hb dX3_append_31 (by decide) ?_
        refine lv_iload hx hb dX3_append_33 (lv_at hl 0 rfl) ?_
        refine lv_imul hx hb dX3_append_35 ?_
        refine lv_lushr (v := (c0.toUInt64 >>> (((nI 8) * ((nI (n - k5)) - (nI 1))).toInt64.toUInt64 &&& Int64.toUInt64 63)).toInt64) hx hb dX3_append_36 rfl ?_
        refine lv_ldc2 (v := 255) hx hb hown (hts (.constantLong RX3 15 (255)) (List.mem_of_getElem? (i := 3) (by decide +kernel))) dX3_append_37 ?_
        refine lv_land hx hb dX3_append_40 ?_
        refine lv_l2i (v := (((c0.toUInt64 >>> (((nI 8) * ((nI (n - k5)) - (nI 1))).toInt64.toUInt64 &&& Int64.toUInt64 63)).toInt64 &&& (255 : Int64))).toInt32) hx hb dX3_append_41 rfl ?_
        refine lv_i2c (v := (((((c0.toUInt64 >>> (((nI 8) * ((nI (n - k5)) - (nI 1))).toInt64.toUInt64 &&& Int64.toUInt64 63)).toInt64 &&& (255 : Int64))).toInt32).toUInt32 % 65536).toInt32) hx hb dX3_append_42 rfl ?_
        refine xg_cast hx hb hK O hW hS (O.d hτ) (q + k5) hE5.1 (by omega) (pk_vc _) dX3_append_43 (fun H locs hW hS => ?_)
        obtain ⟨M_4, eM_4⟩ : ∃ M9, M9 = xu_p z5 (d + 1) (q + k5) (((((c0.toUInt64 >>> (((nI 8) * ((nI (n - k5)) - (nI 1))).toInt64.toUInt64 &&& Int64.toUInt64 63)).toInt64 &&& (255 : Int64))).toInt32).toUInt32 % 65536).toInt32 := ⟨_, rfl⟩
        rw [← eM_4] at hW
        refine lv_aload_n hx hb dX3_append_44 rfl (lv_at hl 1 rfl) ?_
        refine lv_dup hx hb dX3_append_45 rfl ?_
        refine xg_get (κ := 14) (ci := 3) (C := RX3) (T := TX3) (N := 2) hx hb hts inX3 hown hK hW hτ (by decide) rfl rfl 1 (by decide) (hts (.fieldLink RX3 21 "HalfTickets$Pad" "length" "I") (List.mem_of_getElem? (i := 1) (by decide +kernel))) (fun _ h9 => h9) rfl dX3_append_46 ?_
        refine lv_iconst (v := (nI 1)) hx hb dX3_append_49 (by decide) ?_
        refine lv_iadd hx hb dX3_append_50 ?_
        refine xg_put (κ := 14) (ci := 3) (C := RX3) (T := TX3) (N := 2) hx hb hts inX3 tyX3 tyX3_ok nmX3 hown hK O hW hS hτ (by decide) rfl rfl 1 (by decide) (v := ((M_4 d 1) + (nI 1))) rfl trivial (hts (.fieldLink RX3 21 "HalfTickets$Pad" "length" "I") (List.mem_of_getElem? (i := 1) (by decide +kernel))) (fun _ h9 => h9) rfl (ty := .int) (by decide +kernel) rfl rfl (Nat.le_of_ble_eq_true rfl) dX3_append_51 (fun H locs hW hS => ?_)
        obtain ⟨M_5, eM_5⟩ : ∃ M9, M9 = xu_p M_4 d 1 ((M_4 d 1) + (nI 1)) := ⟨_, rfl⟩
        rw [← eM_5] at hW
        refine lv_iinc (v := ((nI (n - (k5 + 1))) - (nI 1))) (lv' := [(4, .int ((nI (n - (k5 + 1))) - (nI 1))), (0, .ref d), (1, .long c0), (3, .int (nI n))]) hx hb dX3_append_54 hl (k := 0) rfl ((xi_dn hk5)) (by decide) rfl (fun ls hl => ?_)
        refine lv_goto (tgt := 5) hx hb dX3_append_57 (by decide) ?_
        exact ih5 M_5 _ _ _ ⟨hW, hS, lv_sub hl [0, 1, 2, 3] rfl, ⟨(by rw [eM_5, xu_s, eM_4, xu_n _ (Or.inl (by omega)), hE5.1]; exact nI_1 _), (fun j hj => by rw [eM_5, xu_n _ (Or.inl (by omega)), eM_4, xu_n _ (Or.inr (by omega))]; exact hE5.2.1 j hj), (fun j hj => by
              rw [eM_5, xu_n _ (Or.inl (by omega)), eM_4]
              by_cases hjk : j = k5
              · subst hjk
                rw [xu_s, xi_d1 hk5]
              · rw [xu_n _ (Or.inr (by omega))]
                exact hE5.2.2.1 j (by omega)), (fun x h1 h2 => by rw [eM_5, xu_p, xr_n _ _ h1, eM_4, xu_p, xr_n _ _ h2]; exact hE5.2.2.2 x h1 h2)⟩⟩
