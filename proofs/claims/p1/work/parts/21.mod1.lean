/-! THE REFERENCE (an object of HalfTicketsModel at r), new: nobody has come -/
def xr_in (v lo hi : Int64) : Int32 := if lg_cmp v lo < 0 then nI 0 else if 0 < lg_cmp v hi then nI 0 else nI 1
theorem xr_cl (i a : Int32) : lg_cmp i.toInt64 a.toInt64 < 0 ↔ i < a := by
  have h1 : i.toInt64.toInt = i.toInt := Int32.toInt_toInt64 i
  have h2 : a.toInt64.toInt = a.toInt := Int32.toInt_toInt64 a
  unfold lg_cmp
  rw [show (i < a) = (i.toInt < a.toInt) from propext Int32.lt_iff_toInt_lt]
  by_cases q1 : a.toInt64 < i.toInt64
  · rw [if_pos q1]
    have q := Int64.lt_iff_toInt_lt.mp q1
    rw [h1, h2] at q
    exact ⟨fun z => absurd z (by decide), fun z => by omega⟩
  · rw [if_neg q1]
    by_cases q2 : i.toInt64 = a.toInt64
    · rw [if_pos q2]
      have q := congrArg Int64.toInt q2
      rw [h1, h2] at q
      exact ⟨fun z => absurd z (by decide), fun z => by omega⟩
    · rw [if_neg q2]
      have q3 : ¬ a.toInt < i.toInt := fun z => q1 (Int64.lt_iff_toInt_lt.mpr (by rw [h1, h2]; exact z))
      have q4 : ¬ i.toInt = a.toInt := fun z => q2 (Int64.toInt_inj.mp (by rw [h1, h2]; exact z))
      exact ⟨fun _ => by omega, fun _ => by decide⟩
theorem xr_cg (i a : Int32) : 0 < lg_cmp i.toInt64 a.toInt64 ↔ a < i := by
  have h1 : i.toInt64.toInt = i.toInt := Int32.toInt_toInt64 i
  have h2 : a.toInt64.toInt = a.toInt := Int32.toInt_toInt64 a
  unfold lg_cmp
  rw [show (a < i) = (a.toInt < i.toInt) from propext Int32.lt_iff_toInt_lt]
  by_cases q1 : a.toInt64 < i.toInt64
  · rw [if_pos q1]
    have q := Int64.lt_iff_toInt_lt.mp q1
    rw [h1, h2] at q
    exact ⟨fun _ => q, fun _ => by decide⟩
  · rw [if_neg q1]
    have q3 : ¬ a.toInt < i.toInt := fun z => q1 (Int64.lt_iff_toInt_lt.mpr (by rw [h1, h2]; exact z))
    by_cases q2 : i.toInt64 = a.toInt64
    · rw [if_pos q2]
      exact ⟨fun z => absurd z (by decide), fun z => absurd z q3⟩
    · rw [if_neg q2]
      exact ⟨fun z => absurd z (by decide), fun z => absurd z q3⟩
theorem xr_in_i (i a b : Int32) {lo hi : Int64} (hlo : lo = a.toInt64) (hhi : hi = b.toInt64) : xr_in i.toInt64 lo hi = if i < a then nI 0 else if i ≤ b then nI 1 else nI 0 := by
  subst hlo
  subst hhi
  unfold xr_in
  by_cases h1 : i < a
  · rw [if_pos ((xr_cl i a).mpr h1), if_pos h1]
  · rw [if_neg (fun z => h1 ((xr_cl i a).mp z)), if_neg h1]
    by_cases h2 : b < i
    · rw [if_pos ((xr_cg i b).mpr h2), if_neg (Int32.not_le.mpr h2)]
    · rw [if_neg (fun z => h2 ((xr_cg i b).mp z)), if_pos (Int32.not_lt.mp h2)]
theorem xr_w_lo {i : Int32} (h : i < 0) : xr_in i.toInt64 0 5 = nI 0 := by
  rw [xr_in_i i (nI 0) (nI 5) (by decide) (by decide)]; exact if_pos h
theorem xr_w_hi {i : Int32} (h : nI 6 ≤ i) : xr_in i.toInt64 0 5 = nI 0 := by
  rw [xr_in_i i (nI 0) (nI 5) (by decide) (by decide)]; exact (if_neg (xi_hi h (by decide))).trans (if_neg (fun z => absurd (Int32.le_trans h z) (by decide)))
theorem xr_w_k {k : Nat} (h : k < 6) : xr_in (nI k).toInt64 0 5 = nI 1 := by
  rw [xr_in_i (nI k) (nI 0) (nI 5) (by decide) (by decide)]; exact (if_neg (nI_pos (by omega))).trans (if_pos (nI_le (by omega) (by decide)))
def xm_al (j : Nat) : Int32 := if j = 0 then nI 2 else if j = 1 then nI 8 else if 8 ≤ j ∧ j < 20 then nI 1 else if 20 ≤ j ∧ j < 26 then nI 8 else nI 0
theorem xm_1 {j : Nat} (h : 8 ≤ j ∧ j < 20) : xm_al j = nI 1 := by
  unfold xm_al
  rw [if_neg (by omega), if_neg (by omega), if_pos h]
theorem xm_8 {j : Nat} (h : 20 ≤ j ∧ j < 26) : xm_al j = nI 8 := by
  unfold xm_al
  rw [if_neg (by omega), if_neg (by omega), if_neg (by omega), if_pos h]
theorem xm_0 {j : Nat} (h : (2 ≤ j ∧ j < 8) ∨ 26 ≤ j) : xm_al j = nI 0 := by
  unfold xm_al
  rw [if_neg (by omega), if_neg (by omega), if_neg (by omega), if_neg (by omega)]
def xr_F (M : xm_T) (r : Nat) : Prop := (∀ j, j < 326 → M (r + 1) j = xm_al j) ∧ M r 3 = nI 0 ∧ M r 8 = nI 0 ∧ ∀ i, i < 2 → M (r + 5) i = nI 0
theorem xr_p {M : xm_T} {r : Nat} (h : xr_F M r) : M (r + 1) 4 = nI 0 := (h.1 4 (by decide)).trans (by decide)

set_option maxHeartbeats 4000000 in
set_option maxRecDepth 100000 in
/-- HalfTicketsModel.in -/
theorem c_X7_in (l : Launch) {G : va_G} {g : Nat → ClassId} {t0 τ : Nat → Nat} {A : Nat → Prop} (O : xk_O τ A) (M : xm_T) (v lo hi : Int64) : Met l yX7_in wsX7_in ({ frames := 0, cells := 0, slots := 0, locals := 0 }) (va_Pc [.long v, .long lo, .long hi] (xS_t G g t0 τ A M)) (va_Qi (fun r M' => r = xr_in v lo hi ∧ M' = M) (fun M' t => xw_D G g τ M' t.heap) A) 0 0 A := by
  refine Met.ofW (cc := cX7_in) (maxL := 6) (ret := (some .boolean)) (by decide) rfl ?_
  intro p e s m args below meth c s₁ B hml hv
  obtain ⟨rfl, hW, hK, hst, hnw⟩ := hv
  have hx := B.exec
  have hb := B.bytes
  have hr := B.returns
  have hts := atoms_spec (ws := wsX7_in) B.pre
  have hown : s.vm.findClass RX7 = some m.cls := findClass_of_methodNamed B.named
  have hlocks := B.notSynchronized
  have hS : va_S A s.heap s.heap [] := va_S.rf
  have hl := lv_entry ([.long v, .long lo, .long hi]) (n := 6) (Nat.le_of_ble_eq_true rfl)
  rw [lg_entry_eq]
  generalize (lg_sl ([.long v, .long lo, .long hi]) ++ List.replicate (6 - (lg_sl ([.long v, .long lo, .long hi])).length) Slot.unset).toArray = ls at hl ⊢
  have hl : lv_has ls 6 [(0, .long v), (2, .long lo), (4, .long hi)] := hl
  refine lv_lload_n hx hb dX7_in_0 rfl (lv_at hl 0 rfl) ?_
  refine lv_lload_n hx hb dX7_in_1 rfl (lv_at hl 1 rfl) ?_
  refine W.lcmp hx hb dX7_in_2 ?_
  refine lv_if_lt (tgt := 17) hx hb dX7_in_3 (by decide) (fun c_2 => ?_) (fun c_2 => ?_)
  · refine lv_iconst (v := (nI 0)) hx hb dX7_in_17 (by decide) ?_
    exact W.zret (v := (nI 0)) hx hb hr rfl (fun t ht hWm => ⟨⟨(nI 0), M, rfl, ⟨(by unfold xr_in; rw [if_pos c_2]), rfl⟩, xw_end ht hW⟩, hS.F ht⟩) hS.2.2 dX7_in_18
  · refine lv_lload_n hx hb dX7_in_6 rfl (lv_at hl 0 rfl) ?_
    refine lv_lload hx hb dX7_in_7 (lv_at hl 2 rfl) ?_
    refine W.lcmp hx hb dX7_in_9 ?_
    refine lv_if_gt (tgt := 17) hx hb dX7_in_10 (by decide) (fun c_4 => ?_) (fun c_4 => ?_)
    · refine lv_iconst (v := (nI 0)) hx hb dX7_in_17 (by decide) ?_
      exact W.zret (v := (nI 0)) hx hb hr rfl (fun t ht hWm => ⟨⟨(nI 0), M, rfl, ⟨(by unfold xr_in; rw [if_neg c_2, if_pos c_4]), rfl⟩, xw_end ht hW⟩, hS.F ht⟩) hS.2.2 dX7_in_18
    · refine lv_iconst (v := (nI 1)) hx hb dX7_in_13 (by decide) ?_
      refine lv_goto (tgt := 18) hx hb dX7_in_14 (by decide) ?_
      exact W.zret (v := (nI 1)) hx hb hr rfl (fun t ht hWm => ⟨⟨(nI 1), M, rfl, ⟨(by unfold xr_in; rw [if_neg c_2, if_neg c_4]), rfl⟩, xw_end ht hW⟩, hS.F ht⟩) hS.2.2 dX7_in_18

theorem xr_01 (v lo hi : Int64) : xb_01 (xr_in v lo hi) := by
  unfold xr_in
  by_cases h1 : lg_cmp v lo < 0
  · rw [if_pos h1]; exact xb_0
  · rw [if_neg h1]
    by_cases h2 : 0 < lg_cmp v hi
    · rw [if_pos h2]; exact xb_0
    · rw [if_neg h2]; exact xb_1

set_option maxHeartbeats 4000000 in
set_option maxRecDepth 100000 in
/-- HalfTicketsModel.isWindow -/
theorem c_X7_isWindow (l : Launch) {G : va_G} {g : Nat → ClassId} {t0 τ : Nat → Nat} {A : Nat → Prop} (O : xk_O τ A) (M : xm_T) (i : Int32) : Met l yX7_isWindow wsX7_isWindow ({ frames := 1, cells := 0, slots := 0, locals := 40 }) (va_Pc [.int i] (xS_t G g t0 τ A M)) (va_Qi (fun r M' => r = xr_in i.toInt64 0 5 ∧ M' = M) (fun M' t => xw_D G g τ M' t.heap) A) 0 0 A := by
  refine Met.ofW (cc := cX7_isWindow) (maxL := 1) (ret := (some .boolean)) (by decide) rfl ?_
  intro p e s m args below meth c s₁ B hml hv
  obtain ⟨rfl, hW, hK, hst, hnw⟩ := hv
  have hx := B.exec
  have hb := B.bytes
  have hr := B.returns
  have hts := atoms_spec (ws := wsX7_isWindow) B.pre
  have hown : s.vm.findClass RX7 = some m.cls := findClass_of_methodNamed B.named
  have hlocks := B.notSynchronized
  have hS : va_S A s.heap s.heap [] := va_S.rf
  have hl := lv_entry ([.int i]) (n := 1) (Nat.le_of_ble_eq_true rfl)
  rw [lg_entry_eq]
  generalize (lg_sl ([.int i]) ++ List.replicate (1 - (lg_sl ([.int i])).length) Slot.unset).toArray = ls at hl ⊢
  have hl : lv_has ls 1 [(0, .int i)] := hl
  refine lv_iload_n hx hb dX7_isWindow_0 rfl (lv_at hl 0 rfl) ?_
  refine lv_i2l (v := (i).toInt64) hx hb dX7_isWindow_1 rfl ?_
  refine lv_lconst (v := 0) hx hb dX7_isWindow_2 rfl ?_
  refine lv_ldc2 (v := 5) hx hb hown (hts (.constantLong RX7 41 (5)) (List.mem_of_getElem? (i := 1) (by decide +kernel))) dX7_isWindow_3 ?_
  refine xc_i (xr_S (As := [.long (i).toInt64, .long (0 : Int64), .long (5 : Int64)]) (rest := []) ⟨hx, hb, hml, hown, hts⟩ (c_X7_in l O M (i).toInt64 (0 : Int64) (5 : Int64)) (va_cwS 3 hts gX7_isWindow_X7_in rfl rfl rfl (by decide +kernel) ⟨Nat.le_of_ble_eq_true rfl, Nat.le_of_ble_eq_true rfl⟩) hK hst hnw hS hW rfl hl.1 rfl (Nat.le_of_ble_eq_true rfl) dX7_isWindow_6 ⟨Nat.zero_le _, Nat.zero_le _⟩) hS (fun r_3 M_1 H locs hq_2 hW hS => ?_)
  obtain ⟨hq_2a, hq_2b⟩ := hq_2
  rw [hq_2b] at hW
  rw [hq_2a]
  exact W.zret (v := (xr_in (i).toInt64 (0 : Int64) (5 : Int64))) hx hb hr (xb_nar (xr_01 _ _ _)) (fun t ht hWm => ⟨⟨(xr_in (i).toInt64 (0 : Int64) (5 : Int64)), M, rfl, ⟨rfl, rfl⟩, xw_end ht hW⟩, hS.F ht⟩) hS.2.2 dX7_isWindow_9

theorem xr_in_p (i : Int32) : xr_in i.toInt64 0 ((nI 0).toInt64 - 1) = nI 0 := by
  rw [xr_in_i i (nI 0) (-1) (by decide) (by decide)]
  by_cases h1 : i < nI 0
  · rw [if_pos h1]
  · rw [if_neg h1, if_neg (fun z => h1 (Int32.lt_of_le_of_lt z (by decide)))]

set_option maxHeartbeats 4000000 in
set_option maxRecDepth 100000 in
/-- HalfTicketsModel.isPerson -/
theorem c_X7_isPerson (l : Launch) {G : va_G} {g : Nat → ClassId} {t0 τ : Nat → Nat} {A : Nat → Prop} (O : xk_O τ A) (M : xm_T) (r : Nat) (hτ : τ r = 20) (hp : M (r + 1) 4 = nI 0) (i : Int32) : Met l yX7_isPerson wsX7_isPerson ({ frames := 1, cells := 0, slots := 0, locals := 40 }) (va_Pc [.ref r, .int i] (xS_t G g t0 τ A M)) (va_Qi (fun r M' => r = nI 0 ∧ M' = M) (fun M' t => xw_D G g τ M' t.heap) A) 0 0 A := by
  refine Met.ofW (cc := cX7_isPerson) (maxL := 2) (ret := (some .boolean)) (by decide) rfl ?_
  intro p e s m args below meth c s₁ B hml hv
  obtain ⟨rfl, hW, hK, hst, hnw⟩ := hv
  have hx := B.exec
  have hb := B.bytes
  have hr := B.returns
  have hts := atoms_spec (ws := wsX7_isPerson) B.pre
  have hown : s.vm.findClass RX7 = some m.cls := findClass_of_methodNamed B.named
  have hlocks := B.notSynchronized
  have hS : va_S A s.heap s.heap [] := va_S.rf
  have inX7 : ∀ w ∈ u_ws RX7 TX7 12, w ∈ wsX7_isPerson := by decide +kernel
  have hl := lv_entry ([.ref r, .int i]) (n := 2) (Nat.le_of_ble_eq_true rfl)
  rw [lg_entry_eq]
  generalize (lg_sl ([.ref r, .int i]) ++ List.replicate (2 - (lg_sl ([.ref r, .int i])).length) Slot.unset).toArray = ls at hl ⊢
  have hl : lv_has ls 2 [(0, .ref r), (1, .int i)] := hl
  refine lv_iload_n hx hb dX7_isPerson_0 rfl (lv_at hl 1 rfl) ?_
  refine lv_i2l (v := (i).toInt64) hx hb dX7_isPerson_1 rfl ?_
  refine lv_lconst (v := 0) hx hb dX7_isPerson_2 rfl ?_
  refine lv_aload_n hx hb dX7_isPerson_3 rfl (lv_at hl 0 rfl) ?_
  refine xg_get (κ := 20) (ci := 7) (C := RX7) (T := TX7) (N := 12) hx hb hts inX7 hown hK hW hτ (by decide) rfl rfl 0 (by decide) (hts (.fieldLink RX7 7 "HalfTicketsModel" "all" "[I") (List.mem_of_getElem? (i := 1) (by decide +kernel))) (fun _ h9 => h9) rfl dX7_isPerson_4 ?_
  refine lv_iconst (v := (nI 4)) hx hb dX7_isPerson_7 (by decide) ?_
  refine xg_iald (κ := 426) (n := 326) hx hb hK hW (O.n1 hτ) (by decide) rfl 4 rfl (by decide) (by decide) dX7_isPerson_8 ?_
  rw [hp]
  refine lv_i2l (v := ((nI 0)).toInt64) hx hb dX7_isPerson_9 rfl ?_
  refine lv_lconst (v := 1) hx hb dX7_isPerson_10 rfl ?_
  refine lv_lsub hx hb dX7_isPerson_11 ?_
  refine xc_i (xr_S (As := [.long (i).toInt64, .long (0 : Int64), .long (((nI 0)).toInt64 - (1 : Int64))]) (rest := []) ⟨hx, hb, hml, hown, hts⟩ (c_X7_in l O M (i).toInt64 (0 : Int64) (((nI 0)).toInt64 - (1 : Int64))) (va_cwS 3 hts gX7_isPerson_X7_in rfl rfl rfl (by decide +kernel) ⟨Nat.le_of_ble_eq_true rfl, Nat.le_of_ble_eq_true rfl⟩) hK hst hnw hS hW rfl hl.1 rfl (Nat.le_of_ble_eq_true rfl) dX7_isPerson_12 ⟨Nat.zero_le _, Nat.zero_le _⟩) hS (fun r_3 M_1 H locs hq_2 hW hS => ?_)
  obtain ⟨hq_2a, hq_2b⟩ := hq_2
  rw [hq_2b] at hW
  rw [hq_2a]
  rw [xr_in_p]
  exact W.zret (v := (nI 0)) hx hb hr rfl (fun t ht hWm => ⟨⟨(nI 0), M, rfl, ⟨rfl, rfl⟩, xw_end ht hW⟩, hS.F ht⟩) hS.2.2 dX7_isPerson_15

set_option maxHeartbeats 4000000 in
set_option maxRecDepth 100000 in
/-- HalfTicketsModel.manyAt -/
theorem c_X7_manyAt (l : Launch) {G : va_G} {g : Nat → ClassId} {t0 τ : Nat → Nat} {A : Nat → Prop} (O : xk_O τ A) (M : xm_T) (r : Nat) (hτ : τ r = 20) (hp : M (r + 1) 4 = nI 0) (u : Int32) (v : Int32) : Met l yX7_manyAt wsX7_manyAt ({ frames := 2, cells := 0, slots := 0, locals := 60 }) (va_Pc [.ref r, .int u, .int v] (xS_t G g t0 τ A M)) (va_Qi (fun r M' => r = nI 0 ∧ M' = M) (fun M' t => xw_D G g τ M' t.heap) A) 0 0 A := by
  refine Met.ofW (cc := cX7_manyAt) (maxL := 5) (ret := (some .int)) (by decide) rfl ?_
  intro p e s m args below meth c s₁ B hml hv
  obtain ⟨rfl, hW, hK, hst, hnw⟩ := hv
  have hx := B.exec
  have hb := B.bytes
  have hr := B.returns
  have hts := atoms_spec (ws := wsX7_manyAt) B.pre
  have hown : s.vm.findClass RX7 = some m.cls := findClass_of_methodNamed B.named
  have hlocks := B.notSynchronized
  have hS : va_S A s.heap s.heap [] := va_S.rf
  have inX7 : ∀ w ∈ u_ws RX7 TX7 12, w ∈ wsX7_manyAt := by decide +kernel
  have hl := lv_entry ([.ref r, .int u, .int v]) (n := 5) (Nat.le_of_ble_eq_true rfl)
  rw [lg_entry_eq]
  generalize (lg_sl ([.ref r, .int u, .int v]) ++ List.replicate (5 - (lg_sl ([.ref r, .int u, .int v])).length) Slot.unset).toArray = ls at hl ⊢
  have hl : lv_has ls 5 [(0, .ref r), (1, .int u), (2, .int v)] := hl
  refine lv_iconst (v := (nI 0)) hx hb dX7_manyAt_0 (by decide) ?_
  refine lv_istore_n (lv' := [(3, .int (nI 0)), (0, .ref r), (1, .int u), (2, .int v)]) hx hb dX7_manyAt_1 rfl hl (by decide) rfl (fun ls hl => ?_)
  refine lv_iconst (v := (nI 0)) hx hb dX7_manyAt_2 (by decide) ?_
  refine lv_istore (lv' := [(4, .int (nI 0)), (3, .int (nI 0)), (0, .ref r), (1, .int u), (2, .int v)]) hx hb dX7_manyAt_3 hl (by decide) rfl (fun ls hl => ?_)
  refine lv_iload hx hb dX7_manyAt_5 (lv_at hl 0 rfl) ?_
  refine lv_aload_n hx hb dX7_manyAt_7 rfl (lv_at hl 2 rfl) ?_
  refine xg_get (κ := 20) (ci := 7) (C := RX7) (T := TX7) (N := 12) hx hb hts inX7 hown hK hW hτ (by decide) rfl rfl 0 (by decide) (hts (.fieldLink RX7 7 "HalfTicketsModel" "all" "[I") (List.mem_of_getElem? (i := 1) (by decide +kernel))) (fun _ h9 => h9) rfl dX7_manyAt_8 ?_
  refine lv_iconst (v := (nI 4)) hx hb dX7_manyAt_11 (by decide) ?_
  refine xg_iald (κ := 426) (n := 326) hx hb hK hW (O.n1 hτ) (by decide) rfl 4 rfl (by decide) (by decide) dX7_manyAt_12 ?_
  refine lv_icmp_ge (tgt := 41) hx hb dX7_manyAt_13 (by decide) (fun c_1 => ?_) (fun c_1 => ?_)
  · refine lv_iload_n hx hb dX7_manyAt_41 rfl (lv_at hl 1 rfl) ?_
    exact W.iret (v := (nI 0)) hx hb hr (fun t ht hWm => ⟨⟨(nI 0), M, rfl, ⟨rfl, rfl⟩, xw_end ht hW⟩, hS.F ht⟩) hS.2.2 dX7_manyAt_42
  · exact absurd (by rw [hp]; exact nI_le (Nat.le_refl _) (by decide)) c_1

set_option maxHeartbeats 4000000 in
set_option maxRecDepth 100000 in
/-- HalfTicketsModel.thatAre -/
theorem c_X7_thatAre (l : Launch) {G : va_G} {g : Nat → ClassId} {t0 τ : Nat → Nat} {A : Nat → Prop} (O : xk_O τ A) (M : xm_T) (r : Nat) (hτ : τ r = 20) (hp : M (r + 1) 4 = nI 0) (u : Int32) : Met l yX7_thatAre wsX7_thatAre ({ frames := 2, cells := 0, slots := 0, locals := 60 }) (va_Pc [.ref r, .int u] (xS_t G g t0 τ A M)) (va_Qi (fun r M' => r = nI 0 ∧ M' = M) (fun M' t => xw_D G g τ M' t.heap) A) 0 0 A := by
  refine Met.ofW (cc := cX7_thatAre) (maxL := 4) (ret := (some .int)) (by decide) rfl ?_
  intro p e s m args below meth c s₁ B hml hv
  obtain ⟨rfl, hW, hK, hst, hnw⟩ := hv
  have hx := B.exec
  have hb := B.bytes
  have hr := B.returns
  have hts := atoms_spec (ws := wsX7_thatAre) B.pre
  have hown : s.vm.findClass RX7 = some m.cls := findClass_of_methodNamed B.named
  have hlocks := B.notSynchronized
  have hS : va_S A s.heap s.heap [] := va_S.rf
  have inX7 : ∀ w ∈ u_ws RX7 TX7 12, w ∈ wsX7_thatAre := by decide +kernel
  have hl := lv_entry ([.ref r, .int u]) (n := 4) (Nat.le_of_ble_eq_true rfl)
  rw [lg_entry_eq]
  generalize (lg_sl ([.ref r, .int u]) ++ List.replicate (4 - (lg_sl ([.ref r, .int u])).length) Slot.unset).toArray = ls at hl ⊢
  have hl : lv_has ls 4 [(0, .ref r), (1, .int u)] := hl
  refine lv_iconst (v := (nI 0)) hx hb dX7_thatAre_0 (by decide) ?_
  refine lv_istore_n (lv' := [(2, .int (nI 0)), (0, .ref r), (1, .int u)]) hx hb dX7_thatAre_1 rfl hl (by decide) rfl (fun ls hl => ?_)
  refine lv_iconst (v := (nI 0)) hx hb dX7_thatAre_2 (by decide) ?_
  refine lv_istore_n (lv' := [(3, .int (nI 0)), (2, .int (nI 0)), (0, .ref r), (1, .int u)]) hx hb dX7_thatAre_3 rfl hl (by decide) rfl (fun ls hl => ?_)
  refine lv_iload_n hx hb dX7_thatAre_4 rfl (lv_at hl 0 rfl) ?_
  refine lv_aload_n hx hb dX7_thatAre_5 rfl (lv_at hl 2 rfl) ?_
  refine xg_get (κ := 20) (ci := 7) (C := RX7) (T := TX7) (N := 12) hx hb hts inX7 hown hK hW hτ (by decide) rfl rfl 0 (by decide) (hts (.fieldLink RX7 7 "HalfTicketsModel" "all" "[I") (List.mem_of_getElem? (i := 1) (by decide +kernel))) (fun _ h9 => h9) rfl dX7_thatAre_6 ?_
  refine lv_iconst (v := (nI 4)) hx hb dX7_thatAre_9 (by decide) ?_
  refine xg_iald (κ := 426) (n := 326) hx hb hK hW (O.n1 hτ) (by decide) rfl 4 rfl (by decide) (by decide) dX7_thatAre_10 ?_
  refine lv_icmp_ge (tgt := 38) hx hb dX7_thatAre_11 (by decide) (fun c_1 => ?_) (fun c_1 => ?_)
  · refine lv_iload_n hx hb dX7_thatAre_38 rfl (lv_at hl 1 rfl) ?_
    exact W.iret (v := (nI 0)) hx hb hr (fun t ht hWm => ⟨⟨(nI 0), M, rfl, ⟨rfl, rfl⟩, xw_end ht hW⟩, hS.F ht⟩) hS.2.2 dX7_thatAre_39
  · exact absurd (by rw [hp]; exact nI_le (Nat.le_refl _) (by decide)) c_1

set_option maxHeartbeats 4000000 in
set_option maxRecDepth 100000 in
/-- HalfTicketsModel.sumOf -/
theorem c_X7_sumOf (l : Launch) {G : va_G} {g : Nat → ClassId} {t0 τ : Nat → Nat} {A : Nat → Prop} (O : xk_O τ A) (M : xm_T) (r : Nat) (hτ : τ r = 20) (hp : M (r + 1) 4 = nI 0) (u : Int32) : Met l yX7_sumOf wsX7_sumOf ({ frames := 2, cells := 0, slots := 0, locals := 60 }) (va_Pc [.ref r, .int u] (xS_t G g t0 τ A M)) (va_Qi (fun r M' => r = nI 0 ∧ M' = M) (fun M' t => xw_D G g τ M' t.heap) A) 0 0 A := by
  refine Met.ofW (cc := cX7_sumOf) (maxL := 4) (ret := (some .int)) (by decide) rfl ?_
  intro p e s m args below meth c s₁ B hml hv
  obtain ⟨rfl, hW, hK, hst, hnw⟩ := hv
  have hx := B.exec
  have hb := B.bytes
  have hr := B.returns
  have hts := atoms_spec (ws := wsX7_sumOf) B.pre
  have hown : s.vm.findClass RX7 = some m.cls := findClass_of_methodNamed B.named
  have hlocks := B.notSynchronized
  have hS : va_S A s.heap s.heap [] := va_S.rf
  have inX7 : ∀ w ∈ u_ws RX7 TX7 12, w ∈ wsX7_sumOf := by decide +kernel
  have hl := lv_entry ([.ref r, .int u]) (n := 4) (Nat.le_of_ble_eq_true rfl)
  rw [lg_entry_eq]
  generalize (lg_sl ([.ref r, .int u]) ++ List.replicate (4 - (lg_sl ([.ref r, .int u])).length) Slot.unset).toArray = ls at hl ⊢
  have hl : lv_has ls 4 [(0, .ref r), (1, .int u)] := hl
  refine lv_iconst (v := (nI 0)) hx hb dX7_sumOf_0 (by decide) ?_
  refine lv_istore_n (lv' := [(2, .int (nI 0)), (0, .ref r), (1, .int u)]) hx hb dX7_sumOf_1 rfl hl (by decide) rfl (fun ls hl => ?_)
  refine lv_iconst (v := (nI 0)) hx hb dX7_sumOf_2 (by decide) ?_
  refine lv_istore_n (lv' := [(3, .int (nI 0)), (2, .int (nI 0)), (0, .ref r), (1, .int u)]) hx hb dX7_sumOf_3 rfl hl (by decide) rfl (fun ls hl => ?_)
  refine lv_iload_n hx hb dX7_sumOf_4 rfl (lv_at hl 0 rfl) ?_
  refine lv_aload_n hx hb dX7_sumOf_5 rfl (lv_at hl 2 rfl) ?_
  refine xg_get (κ := 20) (ci := 7) (C := RX7) (T := TX7) (N := 12) hx hb hts inX7 hown hK hW hτ (by decide) rfl rfl 0 (by decide) (hts (.fieldLink RX7 7 "HalfTicketsModel" "all" "[I") (List.mem_of_getElem? (i := 1) (by decide +kernel))) (fun _ h9 => h9) rfl dX7_sumOf_6 ?_
  refine lv_iconst (v := (nI 4)) hx hb dX7_sumOf_9 (by decide) ?_
  refine xg_iald (κ := 426) (n := 326) hx hb hK hW (O.n1 hτ) (by decide) rfl 4 rfl (by decide) (by decide) dX7_sumOf_10 ?_
  refine lv_icmp_ge (tgt := 29) hx hb dX7_sumOf_11 (by decide) (fun c_1 => ?_) (fun c_1 => ?_)
  · refine lv_iload_n hx hb dX7_sumOf_29 rfl (lv_at hl 1 rfl) ?_
    exact W.iret (v := (nI 0)) hx hb hr (fun t ht hWm => ⟨⟨(nI 0), M, rfl, ⟨rfl, rfl⟩, xw_end ht hW⟩, hS.F ht⟩) hS.2.2 dX7_sumOf_30
  · exact absurd (by rw [hp]; exact nI_le (Nat.le_refl _) (by decide)) c_1

set_option maxHeartbeats 4000000 in
set_option maxRecDepth 100000 in
/-- HalfTicketsModel.firstAt -/
theorem c_X7_firstAt (l : Launch) {G : va_G} {g : Nat → ClassId} {t0 τ : Nat → Nat} {A : Nat → Prop} (O : xk_O τ A) (M : xm_T) (r : Nat) (hτ : τ r = 20) (hp : M (r + 1) 4 = nI 0) (u : Int32) (v : Int32) (z : Int32) : Met l yX7_firstAt wsX7_firstAt ({ frames := 2, cells := 0, slots := 0, locals := 60 }) (va_Pc [.ref r, .int u, .int v, .int z] (xS_t G g t0 τ A M)) (va_Qi (fun r M' => r = -6 ∧ M' = M) (fun M' t => xw_D G g τ M' t.heap) A) 0 0 A := by
  refine Met.ofW (cc := cX7_firstAt) (maxL := 6) (ret := (some .int)) (by decide) rfl ?_
  intro p e s m args below meth c s₁ B hml hv
  obtain ⟨rfl, hW, hK, hst, hnw⟩ := hv
  have hx := B.exec
  have hb := B.bytes
  have hr := B.returns
  have hts := atoms_spec (ws := wsX7_firstAt) B.pre
  have hown : s.vm.findClass RX7 = some m.cls := findClass_of_methodNamed B.named
  have hlocks := B.notSynchronized
  have hS : va_S A s.heap s.heap [] := va_S.rf
  have inX7 : ∀ w ∈ u_ws RX7 TX7 12, w ∈ wsX7_firstAt := by decide +kernel
  have hl := lv_entry ([.ref r, .int u, .int v, .int z]) (n := 6) (Nat.le_of_ble_eq_true rfl)
  rw [lg_entry_eq]
  generalize (lg_sl ([.ref r, .int u, .int v, .int z]) ++ List.replicate (6 - (lg_sl ([.ref r, .int u, .int v, .int z])).length) Slot.unset).toArray = ls at hl ⊢
  have hl : lv_has ls 6 [(0, .ref r), (1, .int u), (2, .int v), (3, .int z)] := hl
  refine lv_bipush (v := (-6)) hx hb dX7_firstAt_0 (by decide) ?_
  refine lv_istore (lv' := [(4, .int (-6)), (0, .ref r), (1, .int u), (2, .int v), (3, .int z)]) hx hb dX7_firstAt_2 hl (by decide) rfl (fun ls hl => ?_)
  refine lv_iconst (v := (nI 0)) hx hb dX7_firstAt_4 (by decide) ?_
  refine lv_istore (lv' := [(5, .int (nI 0)), (4, .int (-6)), (0, .ref r), (1, .int u), (2, .int v), (3, .int z)]) hx hb dX7_firstAt_5 hl (by decide) rfl (fun ls hl => ?_)
  refine lv_iload hx hb dX7_firstAt_7 (lv_at hl 0 rfl) ?_
  refine lv_aload_n hx hb dX7_firstAt_9 rfl (lv_at hl 2 rfl) ?_
  refine xg_get (κ := 20) (ci := 7) (C := RX7) (T := TX7) (N := 12) hx hb hts inX7 hown hK hW hτ (by decide) rfl rfl 0 (by decide) (hts (.fieldLink RX7 7 "HalfTicketsModel" "all" "[I") (List.mem_of_getElem? (i := 1) (by decide +kernel))) (fun _ h9 => h9) rfl dX7_firstAt_10 ?_
  refine lv_iconst (v := (nI 4)) hx hb dX7_firstAt_13 (by decide) ?_
  refine xg_iald (κ := 426) (n := 326) hx hb hK hW (O.n1 hτ) (by decide) rfl 4 rfl (by decide) (by decide) dX7_firstAt_14 ?_
  refine lv_icmp_ge (tgt := 82) hx hb dX7_firstAt_15 (by decide) (fun c_1 => ?_) (fun c_1 => ?_)
  · refine lv_iload hx hb dX7_firstAt_82 (lv_at hl 1 rfl) ?_
    exact W.iret (v := (-6)) hx hb hr (fun t ht hWm => ⟨⟨(-6), M, rfl, ⟨rfl, rfl⟩, xw_end ht hW⟩, hS.F ht⟩) hS.2.2 dX7_firstAt_84
  · exact absurd (by rw [hp]; exact nI_le (Nat.le_refl _) (by decide)) c_1

set_option maxHeartbeats 4000000 in
set_option maxRecDepth 100000 in
/-- HalfTicketsModel.acts -/
theorem c_X7_acts (l : Launch) {G : va_G} {g : Nat → ClassId} {t0 τ : Nat → Nat} {A : Nat → Prop} (O : xk_O τ A) (M : xm_T) (r : Nat) (hτ : τ r = 20) (hp : M (r + 1) 4 = nI 0) (i : Int32) : Met l yX7_acts wsX7_acts ({ frames := 3, cells := 0, slots := 0, locals := 90 }) (va_Pc [.ref r, .int i] (xS_t G g t0 τ A M)) (va_Qv (fun M' => M' = M) (fun M' t => xw_D G g τ M' t.heap) A) 0 0 A := by
  refine Met.ofW (cc := cX7_acts) (maxL := 4) (ret := none) (by decide) rfl ?_
  intro p e s m args below meth c s₁ B hml hv
  obtain ⟨rfl, hW, hK, hst, hnw⟩ := hv
  have hx := B.exec
  have hb := B.bytes
  have hr := B.returns
  have hts := atoms_spec (ws := wsX7_acts) B.pre
  have hown : s.vm.findClass RX7 = some m.cls := findClass_of_methodNamed B.named
  have hlocks := B.notSynchronized
  have hS : va_S A s.heap s.heap [] := va_S.rf
  have inX7 : ∀ w ∈ u_ws RX7 TX7 12, w ∈ wsX7_acts := by decide +kernel
  have hl := lv_entry ([.ref r, .int i]) (n := 4) (Nat.le_of_ble_eq_true rfl)
  rw [lg_entry_eq]
  generalize (lg_sl ([.ref r, .int i]) ++ List.replicate (4 - (lg_sl ([.ref r, .int i])).length) Slot.unset).toArray = ls at hl ⊢
  have hl : lv_has ls 4 [(0, .ref r), (1, .int i)] := hl
  refine lv_aload_n hx hb dX7_acts_0 rfl (lv_at hl 0 rfl) ?_
  refine lv_iconst (v := (nI 1)) hx hb dX7_acts_1 (by decide) ?_
  refine lv_iload_n hx hb dX7_acts_2 rfl (lv_at hl 1 rfl) ?_
  refine lv_iconst (v := (nI 0)) hx hb dX7_acts_3 (by decide) ?_
  refine xc_i (xr_V (As := [.int (nI 1), .int i, .int (nI 0)]) (rest := []) (κ := 20) ⟨hx, hb, hml, hown, hts⟩ (c_X7_firstAt l O M r hτ hp (nI 1) i (nI 0)) (cwV 3 hts gX7_acts_X7_firstAt rfl rfl rfl (by decide +kernel) ⟨Nat.le_of_ble_eq_true rfl, Nat.le_of_ble_eq_true rfl⟩) hK hst hnw hS hW hτ (by decide) rfl rfl rfl hl.1 rfl (Nat.le_of_ble_eq_true rfl) dX7_acts_4 ⟨Nat.zero_le _, Nat.zero_le _⟩) hS (fun r_3 M_1 H locs hq_2 hW hS => ?_)
  obtain ⟨hq_2a, hq_2b⟩ := hq_2
  rw [hq_2b] at hW
  rw [hq_2a]
  refine lv_istore_n (lv' := [(2, .int (-6)), (0, .ref r), (1, .int i)]) hx hb dX7_acts_7 rfl hl (by decide) rfl (fun ls hl => ?_)
  refine lv_iload_n hx hb dX7_acts_8 rfl (lv_at hl 0 rfl) ?_
  refine lv_bipush (v := (-6)) hx hb dX7_acts_9 (by decide) ?_
  refine lv_icmp_eq (tgt := 62) hx hb dX7_acts_11 (by decide) (fun c_4 => ?_) (fun c_4 => ?_)
  · refine lv_aload_n hx hb dX7_acts_62 rfl (lv_at hl 1 rfl) ?_
    refine lv_iconst (v := (nI 0)) hx hb dX7_acts_63 (by decide) ?_
    refine lv_iload_n hx hb dX7_acts_64 rfl (lv_at hl 2 rfl) ?_
    refine lv_iconst (v := (nI 0)) hx hb dX7_acts_65 (by decide) ?_
    refine xc_i (xr_V (As := [.int (nI 0), .int i, .int (nI 0)]) (rest := []) (κ := 20) ⟨hx, hb, hml, hown, hts⟩ (c_X7_firstAt l O M r hτ hp (nI 0) i (nI 0)) (cwV 3 hts gX7_acts_X7_firstAt rfl rfl rfl (by decide +kernel) ⟨Nat.le_of_ble_eq_true rfl, Nat.le_of_ble_eq_true rfl⟩) hK hst hnw hS hW hτ (by decide) rfl rfl rfl hl.1 rfl (Nat.le_of_ble_eq_true rfl) dX7_acts_66 ⟨Nat.zero_le _, Nat.zero_le _⟩) hS (fun r_7 M_5 H locs hq_6 hW hS => ?_)
    obtain ⟨hq_6a, hq_6b⟩ := hq_6
    rw [hq_6b] at hW
    rw [hq_6a]
    refine lv_istore_n (lv' := [(2, .int (-6)), (0, .ref r), (1, .int i)]) hx hb dX7_acts_69 rfl hl (by decide) rfl (fun ls hl => ?_)
    refine lv_iload_n hx hb dX7_acts_70 rfl (lv_at hl 0 rfl) ?_
    refine lv_bipush (v := (-6)) hx hb dX7_acts_71 (by decide) ?_
    refine lv_icmp_eq (tgt := 134) hx hb dX7_acts_73 (by decide) (fun c_8 => ?_) (fun c_8 => ?_)
    · exact W.vret hx hb hr (fun t ht hWm => ⟨⟨M, rfl, rfl, xw_end ht hW⟩, hS.F ht⟩) hS.2.2 dX7_acts_134
    · exact absurd rfl c_8
  · exact absurd rfl c_4

/-- a tick where nobody is: the count, and who came, alone change -/
def xr_R (r : Nat) (M M' : xm_T) : Prop := (∀ j, j ≠ 3 → M' (r + 1) j = M (r + 1) j) ∧ ∀ x, x ≠ r + 1 → x ≠ r + 6 → M' x = M x
theorem xr_tr {r : Nat} {M M1 M2 : xm_T} (h1 : xr_R r M M1) (h2 : xr_R r M1 M2) : xr_R r M M2 := ⟨fun j hj => (h2.1 j hj).trans (h1.1 j hj), fun x a b => (h2.2 x a b).trans (h1.2 x a b)⟩
theorem xr_rf (r : Nat) (M : xm_T) : xr_R r M M := ⟨fun _ _ => rfl, fun _ _ _ => rfl⟩

set_option maxHeartbeats 4000000 in
set_option maxRecDepth 100000 in
/-- HalfTicketsModel.ticks -/
theorem c_X7_ticks (l : Launch) {G : va_G} {g : Nat → ClassId} {t0 τ : Nat → Nat} {A : Nat → Prop} (O : xk_O τ A) (M : xm_T) (r : Nat) (hτ : τ r = 20) (hp : M (r + 1) 4 = nI 0) : Met l yX7_ticks wsX7_ticks ({ frames := 4, cells := 0, slots := 0, locals := 120 }) (va_Pc [.ref r] (xS_t G g t0 τ A M)) (va_Qv (fun M' => xr_R r M M') (fun M' t => xw_D G g τ M' t.heap) A) 0 0 A := by
  refine Met.ofW (cc := cX7_ticks) (maxL := 2) (ret := none) (by decide) rfl ?_
  intro p e s m args below meth c s₁ B hml hv
  obtain ⟨rfl, hW, hK, hst, hnw⟩ := hv
  have hx := B.exec
  have hb := B.bytes
  have hr := B.returns
  have hts := atoms_spec (ws := wsX7_ticks) B.pre
  have hown : s.vm.findClass RX7 = some m.cls := findClass_of_methodNamed B.named
  have hlocks := B.notSynchronized
  have hS : va_S A s.heap s.heap [] := va_S.rf
  have inX7 : ∀ w ∈ u_ws RX7 TX7 12, w ∈ wsX7_ticks := by decide +kernel
  have hl := lv_entry ([.ref r]) (n := 2) (Nat.le_of_ble_eq_true rfl)
  rw [lg_entry_eq]
  generalize (lg_sl ([.ref r]) ++ List.replicate (2 - (lg_sl ([.ref r])).length) Slot.unset).toArray = ls at hl ⊢
  have hl : lv_has ls 2 [(0, .ref r)] := hl
  refine lv_iconst (v := (nI 0)) hx hb dX7_ticks_0 (by decide) ?_
  refine lv_istore_n (lv' := [(1, .int (nI 0)), (0, .ref r)]) hx hb dX7_ticks_1 rfl hl (by decide) rfl (fun ls hl => ?_)
  refine xl_up (σ := xm_T) 24 (fun kk zz H locs ls => xw_D G g τ zz H ∧ va_S A s.heap H locs ∧ lv_has ls 2 [(1, .int (nI kk)), (0, .ref r)] ∧ ∀ x, x ≠ r + 6 → zz x = M x) (fun z2 H locs ls hI => ?_) (fun k2 z2 H locs ls hk2 hI ih2 => ?_) (k0 := 0) (z0 := M) (Nat.zero_le _) ⟨hW, hS, lv_sub hl [0, 1] rfl, (fun _ _ => rfl)⟩
  · obtain ⟨hW, hS, hl, hE2⟩ := hI
    refine lv_iload_n hx hb dX7_ticks_2 rfl (lv_at hl 0 rfl) ?_
    refine lv_bipush (v := (nI 24)) hx hb dX7_ticks_3 (by decide) ?_
    refine lv_icmp_ge (tgt := 21) hx hb dX7_ticks_5 (by decide) (fun c_1 => ?_) (fun c_1 => ?_)
    · refine lv_iconst (v := (nI 0)) hx hb dX7_ticks_21 (by decide) ?_
      refine lv_istore_n (lv' := [(1, .int (nI 0)), (0, .ref r)]) hx hb dX7_ticks_22 rfl hl (by decide) rfl (fun ls hl => ?_)
      have hp2 : z2 (r + 1) 4 = nI 0 := by rw [hE2 _ (by omega)]; exact hp
      refine xl_up (σ := Unit) 6 (fun kk zz H locs ls => xw_D G g τ z2 H ∧ va_S A s.heap H locs ∧ lv_has ls 2 [(1, .int (nI kk)), (0, .ref r)] ∧ True) (fun z23 H locs ls hI => ?_) (fun k23 z23 H locs ls hk23 hI ih23 => ?_) (k0 := 0) (z0 := ()) (Nat.zero_le _) ⟨hW, hS, lv_sub hl [0, 1] rfl, trivial⟩
      · obtain ⟨hW, hS, hl, hE23⟩ := hI
        refine lv_iload_n hx hb dX7_ticks_23 rfl (lv_at hl 0 rfl) ?_
        refine lv_bipush (v := (nI 6)) hx hb dX7_ticks_24 (by decide) ?_
        refine lv_icmp_ge (tgt := 53) hx hb dX7_ticks_26 (by decide) (fun c_2 => ?_) (fun c_2 => ?_)
        · refine lv_iconst (v := (nI 0)) hx hb dX7_ticks_53 (by decide) ?_
          refine lv_istore_n (lv' := [(1, .int (nI 0)), (0, .ref r)]) hx hb dX7_ticks_54 rfl hl (by decide) rfl (fun ls hl => ?_)
          refine lv_iload_n hx hb dX7_ticks_55 rfl (lv_at hl 0 rfl) ?_
          refine lv_aload_n hx hb dX7_ticks_56 rfl (lv_at hl 1 rfl) ?_
          refine xg_get (κ := 20) (ci := 7) (C := RX7) (T := TX7) (N := 12) hx hb hts inX7 hown hK hW hτ (by decide) rfl rfl 0 (by decide) (hts (.fieldLink RX7 7 "HalfTicketsModel" "all" "[I") (List.mem_of_getElem? (i := 2) (by decide +kernel))) (fun _ h9 => h9) rfl dX7_ticks_57 ?_
          refine lv_iconst (v := (nI 4)) hx hb dX7_ticks_60 (by decide) ?_
          refine xg_iald (κ := 426) (n := 326) hx hb hK hW (O.n1 hτ) (by decide) rfl 4 rfl (by decide) (by decide) dX7_ticks_61 ?_
          refine lv_icmp_ge (tgt := 85) hx hb dX7_ticks_62 (by decide) (fun c_3 => ?_) (fun c_3 => ?_)
          · refine lv_aload_n hx hb dX7_ticks_85 rfl (lv_at hl 1 rfl) ?_
            refine xg_get (κ := 20) (ci := 7) (C := RX7) (T := TX7) (N := 12) hx hb hts inX7 hown hK hW hτ (by decide) rfl rfl 0 (by decide) (hts (.fieldLink RX7 7 "HalfTicketsModel" "all" "[I") (List.mem_of_getElem? (i := 2) (by decide +kernel))) (fun _ h9 => h9) rfl dX7_ticks_86 ?_
            refine lv_iconst (v := (nI 3)) hx hb dX7_ticks_89 (by decide) ?_
            refine lv_dup2_11 hx hb dX7_ticks_90 rfl rfl ?_
            refine xg_iald (κ := 426) (n := 326) hx hb hK hW (O.n1 hτ) (by decide) rfl 3 rfl (by decide) (by decide) dX7_ticks_91 ?_
            refine lv_iconst (v := (nI 1)) hx hb dX7_ticks_92 (by decide) ?_
            refine lv_iadd hx hb dX7_ticks_93 ?_
            refine xg_iast (κ := 426) (n := 326) hx hb hK O hW hS (O.n1 hτ) (by decide) (fun _ => rfl) (fun _ => trivial) 3 rfl (by decide) (by decide) dX7_ticks_94 (fun H locs hW hS => ?_)
            obtain ⟨M_4, eM_4⟩ : ∃ M9, M9 = xu_p z2 (r + 1) 3 ((z2 (r + 1) 3) + (nI 1)) := ⟨_, rfl⟩
            rw [← eM_4] at hW
            exact W.vret hx hb hr (fun t ht hWm => ⟨⟨M_4, rfl, ⟨fun j hj => by rw [eM_4, xu_n _ (Or.inr hj), hE2 _ (by omega)], fun x h1 h2 => by rw [eM_4, xu_p, xr_n _ _ h1]; exact hE2 x h2⟩, xw_end ht hW⟩, hS.F ht⟩) hS.2.2 dX7_ticks_95
          · exact absurd (by rw [hp2]; exact nI_le (Nat.le_refl _) (by decide)) c_3
        · exact absurd (nI_le (Nat.le_refl _) (by decide)) c_2
      · obtain ⟨hW, hS, hl, hE23⟩ := hI
        refine lv_iload_n hx hb dX7_ticks_23 rfl (lv_at hl 0 rfl) ?_
        refine lv_bipush (v := (nI 6)) hx hb dX7_ticks_24 (by decide) ?_
        refine lv_icmp_ge (tgt := 53) hx hb dX7_ticks_26 (by decide) (fun c_5 => ?_) (fun c_5 => ?_)
        · exact absurd c_5 (nI_ge hk23 (by decide))
        · refine lv_aload_n hx hb dX7_ticks_29 rfl (lv_at hl 1 rfl) ?_
          refine xg_get (κ := 20) (ci := 7) (C := RX7) (T := TX7) (N := 12) hx hb hts inX7 hown hK hW hτ (by decide) rfl rfl 0 (by decide) (hts (.fieldLink RX7 7 "HalfTicketsModel" "all" "[I") (List.mem_of_getElem? (i := 2) (by decide +kernel))) (fun _ h9 => h9) rfl dX7_ticks_30 ?_
          refine lv_bipush (v := (nI 8)) hx hb dX7_ticks_33 (by decide) ?_
          refine lv_iload_n hx hb dX7_ticks_35 rfl (lv_at hl 0 rfl) ?_
          refine lv_iadd hx hb dX7_ticks_36 ?_
          refine xg_iald (κ := 426) (n := 326) hx hb hK hW (O.n1 hτ) (by decide) rfl (8 + k23) (nI_add 8 k23) (by omega) (by decide) dX7_ticks_37 ?_
          refine lv_iconst (v := (nI 1)) hx hb dX7_ticks_38 (by decide) ?_
          refine lv_icmp_ne (tgt := 47) hx hb dX7_ticks_39 (by decide) (fun c_6 => ?_) (fun c_6 => ?_)
          · refine lv_iinc (v := (nI (k23 + 1))) (lv' := [(1, .int (nI (k23 + 1))), (0, .ref r)]) hx hb dX7_ticks_47 hl (k := 0) rfl ((nI_1 k23)) (by decide) rfl (fun ls hl => ?_)
            refine lv_goto (tgt := 23) hx hb dX7_ticks_50 (by decide) ?_
            exact ih23 () _ _ _ ⟨hW, hS, lv_sub hl [0, 1] rfl, trivial⟩
          · refine lv_aload_n hx hb dX7_ticks_42 rfl (lv_at hl 1 rfl) ?_
            refine lv_iload_n hx hb dX7_ticks_43 rfl (lv_at hl 0 rfl) ?_
            refine xc_v (xr_V (As := [.int (nI k23)]) (rest := []) (κ := 20) ⟨hx, hb, hml, hown, hts⟩ (c_X7_acts l O z2 r hτ hp2 (nI k23)) (cwV 1 hts gX7_ticks_X7_acts rfl rfl rfl (by decide +kernel) ⟨Nat.le_of_ble_eq_true rfl, Nat.le_of_ble_eq_true rfl⟩) hK hst hnw hS hW hτ (by decide) rfl rfl rfl hl.1 rfl (Nat.le_of_ble_eq_true rfl) dX7_ticks_44 ⟨Nat.zero_le _, Nat.zero_le _⟩) hS (fun M_7 H locs hq_8 hW hS => ?_)
            rw [hq_8] at hW
            refine lv_iinc (v := (nI (k23 + 1))) (lv' := [(1, .int (nI (k23 + 1))), (0, .ref r)]) hx hb dX7_ticks_47 hl (k := 0) rfl ((nI_1 k23)) (by decide) rfl (fun ls hl => ?_)
            refine lv_goto (tgt := 23) hx hb dX7_ticks_50 (by decide) ?_
            exact ih23 () _ _ _ ⟨hW, hS, lv_sub hl [0, 1] rfl, trivial⟩
    · exact absurd (nI_le (Nat.le_refl _) (by decide)) c_1
  · obtain ⟨hW, hS, hl, hE2⟩ := hI
    refine lv_iload_n hx hb dX7_ticks_2 rfl (lv_at hl 0 rfl) ?_
    refine lv_bipush (v := (nI 24)) hx hb dX7_ticks_3 (by decide) ?_
    refine lv_icmp_ge (tgt := 21) hx hb dX7_ticks_5 (by decide) (fun c_10 => ?_) (fun c_10 => ?_)
    · exact absurd c_10 (nI_ge hk2 (by decide))
    · refine lv_aload_n hx hb dX7_ticks_8 rfl (lv_at hl 1 rfl) ?_
      refine xg_get (κ := 20) (ci := 7) (C := RX7) (T := TX7) (N := 12) hx hb hts inX7 hown hK hW hτ (by decide) rfl rfl 6 (by decide) (hts (.fieldLink RX7 25 "HalfTicketsModel" "came" "[I") (List.mem_of_getElem? (i := 1) (by decide +kernel))) (fun _ h9 => h9) rfl dX7_ticks_9 ?_
      refine lv_iload_n hx hb dX7_ticks_12 rfl (lv_at hl 0 rfl) ?_
      refine lv_iconst (v := (nI 0)) hx hb dX7_ticks_13 (by decide) ?_
      refine xg_iast (κ := 124) (n := 24) hx hb hK O hW hS (O.n6 hτ) (by decide) (fun _ => rfl) (fun _ => trivial) k2 rfl hk2 (by decide) dX7_ticks_14 (fun H locs hW hS => ?_)
      obtain ⟨M_11, eM_11⟩ : ∃ M9, M9 = xu_p z2 (r + 6) k2 (nI 0) := ⟨_, rfl⟩
      rw [← eM_11] at hW
      refine lv_iinc (v := (nI (k2 + 1))) (lv' := [(1, .int (nI (k2 + 1))), (0, .ref r)]) hx hb dX7_ticks_15 hl (k := 0) rfl ((nI_1 k2)) (by decide) rfl (fun ls hl => ?_)
      refine lv_goto (tgt := 2) hx hb dX7_ticks_18 (by decide) ?_
      exact ih2 M_11 _ _ _ ⟨hW, hS, lv_sub hl [0, 1] rfl, (fun x hx => by rw [eM_11, xu_p, xr_n _ _ hx]; exact hE2 x hx)⟩

set_option maxHeartbeats 4000000 in
set_option maxRecDepth 100000 in
/-- HalfTicketsModel.changes -/
theorem c_X7_changes (l : Launch) {G : va_G} {g : Nat → ClassId} {t0 τ : Nat → Nat} {A : Nat → Prop} (O : xk_O τ A) (M : xm_T) (r : Nat) (hτ : τ r = 20) (hh : M r 3 = nI 0) : Met l yX7_changes wsX7_changes ({ frames := 0, cells := 0, slots := 0, locals := 0 }) (va_Pc [.ref r] (xS_t G g t0 τ A M)) (va_Qv (fun M' => ∀ x, x ≠ r → x ≠ r + 3 → M' x = M x) (fun M' t => xw_D G g τ M' t.heap) A) 0 0 A := by
  refine Met.ofW (cc := cX7_changes) (maxL := 2) (ret := none) (by decide) rfl ?_
  intro p e s m args below meth c s₁ B hml hv
  obtain ⟨rfl, hW, hK, hst, hnw⟩ := hv
  have hx := B.exec
  have hb := B.bytes
  have hr := B.returns
  have hts := atoms_spec (ws := wsX7_changes) B.pre
  have hown : s.vm.findClass RX7 = some m.cls := findClass_of_methodNamed B.named
  have hlocks := B.notSynchronized
  have hS : va_S A s.heap s.heap [] := va_S.rf
  have inX7 : ∀ w ∈ u_ws RX7 TX7 12, w ∈ wsX7_changes := by decide +kernel
  have hl := lv_entry ([.ref r]) (n := 2) (Nat.le_of_ble_eq_true rfl)
  rw [lg_entry_eq]
  generalize (lg_sl ([.ref r]) ++ List.replicate (2 - (lg_sl ([.ref r])).length) Slot.unset).toArray = ls at hl ⊢
  have hl : lv_has ls 2 [(0, .ref r)] := hl
  refine lv_aload_n hx hb dX7_changes_0 rfl (lv_at hl 0 rfl) ?_
  refine xg_get (κ := 20) (ci := 7) (C := RX7) (T := TX7) (N := 12) hx hb hts inX7 hown hK hW hτ (by decide) rfl rfl 3 (by decide) (hts (.fieldLink RX7 37 "HalfTicketsModel" "historyLong" "I") (List.mem_of_getElem? (i := 1) (by decide +kernel))) (fun _ h9 => h9) rfl dX7_changes_1 ?_
  refine lv_bipush (v := (nI 6)) hx hb dX7_changes_4 (by decide) ?_
  refine lv_icmp_ne (tgt := 50) hx hb dX7_changes_6 (by decide) (fun c_1 => ?_) (fun c_1 => ?_)
  · refine lv_iconst (v := (nI 0)) hx hb dX7_changes_50 (by decide) ?_
    refine lv_istore_n (lv' := [(1, .int (nI 0)), (0, .ref r)]) hx hb dX7_changes_51 rfl hl (by decide) rfl (fun ls hl => ?_)
    refine xl_up (σ := xm_T) 326 (fun kk zz H locs ls => xw_D G g τ zz H ∧ va_S A s.heap H locs ∧ lv_has ls 2 [(1, .int (nI kk)), (0, .ref r)] ∧ ∀ x, x ≠ r + 3 → zz x = M x) (fun z52 H locs ls hI => ?_) (fun k52 z52 H locs ls hk52 hI ih52 => ?_) (k0 := 0) (z0 := M) (Nat.zero_le _) ⟨hW, hS, lv_sub hl [0, 1] rfl, (fun _ _ => rfl)⟩
    · obtain ⟨hW, hS, hl, hE52⟩ := hI
      refine lv_iload_n hx hb dX7_changes_52 rfl (lv_at hl 0 rfl) ?_
      refine lv_sipush (v := (nI 326)) hx hb dX7_changes_53 (by decide) ?_
      refine lv_icmp_ge (tgt := 86) hx hb dX7_changes_56 (by decide) (fun c_2 => ?_) (fun c_2 => ?_)
      · refine lv_aload_n hx hb dX7_changes_86 rfl (lv_at hl 1 rfl) ?_
        refine lv_dup hx hb dX7_changes_87 rfl ?_
        refine xg_get (κ := 20) (ci := 7) (C := RX7) (T := TX7) (N := 12) hx hb hts inX7 hown hK hW hτ (by decide) rfl rfl 3 (by decide) (hts (.fieldLink RX7 37 "HalfTicketsModel" "historyLong" "I") (List.mem_of_getElem? (i := 1) (by decide +kernel))) (fun _ h9 => h9) rfl dX7_changes_88 ?_
        refine lv_iconst (v := (nI 1)) hx hb dX7_changes_91 (by decide) ?_
        refine lv_iadd hx hb dX7_changes_92 ?_
        refine xg_put (κ := 20) (ci := 7) (C := RX7) (T := TX7) (N := 12) hx hb hts inX7 tyX7 tyX7_ok nmX7 hown hK O hW hS hτ (by decide) rfl rfl 3 (by decide) (v := ((z52 r 3) + (nI 1))) rfl trivial (hts (.fieldLink RX7 37 "HalfTicketsModel" "historyLong" "I") (List.mem_of_getElem? (i := 1) (by decide +kernel))) (fun _ h9 => h9) rfl (ty := .int) (by decide +kernel) rfl rfl (Nat.le_of_ble_eq_true rfl) dX7_changes_93 (fun H locs hW hS => ?_)
        obtain ⟨M_3, eM_3⟩ : ∃ M9, M9 = xu_p z52 r 3 ((z52 r 3) + (nI 1)) := ⟨_, rfl⟩
        rw [← eM_3] at hW
        exact W.vret hx hb hr (fun t ht hWm => ⟨⟨M_3, rfl, (fun x h1 h2 => by rw [eM_3, xu_p, xr_n _ _ h1]; exact hE52 x h2), xw_end ht hW⟩, hS.F ht⟩) hS.2.2 dX7_changes_96
      · exact absurd (nI_le (Nat.le_refl _) (by decide)) c_2
    · obtain ⟨hW, hS, hl, hE52⟩ := hI
      refine lv_iload_n hx hb dX7_changes_52 rfl (lv_at hl 0 rfl) ?_
      refine lv_sipush (v := (nI 326)) hx hb dX7_changes_53 (by decide) ?_
      refine lv_icmp_ge (tgt := 86) hx hb dX7_changes_56 (by decide) (fun c_4 => ?_) (fun c_4 => ?_)
      · exact absurd c_4 (nI_ge hk52 (by decide))
      · refine lv_aload_n hx hb dX7_changes_59 rfl (lv_at hl 1 rfl) ?_
        refine xg_get (κ := 20) (ci := 7) (C := RX7) (T := TX7) (N := 12) hx hb hts inX7 hown hK hW hτ (by decide) rfl rfl 2 (by decide) (hts (.fieldLink RX7 16 "HalfTicketsModel" "history" "[I") (List.mem_of_getElem? (i := 2) (by decide +kernel))) (fun _ h9 => h9) rfl dX7_changes_60 ?_
        refine lv_sipush (v := (nI 326)) hx hb dX7_changes_63 (by decide) ?_
        refine lv_aload_n hx hb dX7_changes_66 rfl (lv_at hl 1 rfl) ?_
        refine xg_get (κ := 20) (ci := 7) (C := RX7) (T := TX7) (N := 12) hx hb hts inX7 hown hK hW hτ (by decide) rfl rfl 3 (by decide) (hts (.fieldLink RX7 37 "HalfTicketsModel" "historyLong" "I") (List.mem_of_getElem? (i := 1) (by decide +kernel))) (fun _ h9 => h9) rfl dX7_changes_67 ?_
        refine lv_imul hx hb dX7_changes_70 ?_
        refine lv_iload_n hx hb dX7_changes_71 rfl (lv_at hl 0 rfl) ?_
        refine lv_iadd hx hb dX7_changes_72 ?_
        refine lv_aload_n hx hb dX7_changes_73 rfl (lv_at hl 1 rfl) ?_
        refine xg_get (κ := 20) (ci := 7) (C := RX7) (T := TX7) (N := 12) hx hb hts inX7 hown hK hW hτ (by decide) rfl rfl 0 (by decide) (hts (.fieldLink RX7 7 "HalfTicketsModel" "all" "[I") (List.mem_of_getElem? (i := 3) (by decide +kernel))) (fun _ h9 => h9) rfl dX7_changes_74 ?_
        refine lv_iload_n hx hb dX7_changes_77 rfl (lv_at hl 0 rfl) ?_
        refine xg_iald (κ := 426) (n := 326) hx hb hK hW (O.n1 hτ) (by decide) rfl k52 rfl hk52 (by decide) dX7_changes_78 ?_
        refine xg_iast (κ := 2056) (n := 1956) hx hb hK O hW hS (O.n3 hτ) (by decide) (fun _ => rfl) (fun _ => trivial) k52 (by rw [hE52 r (by omega), hh]; exact (by rw [show nI 326 * nI 0 = nI 0 from by decide, nI_add, Nat.zero_add])) (by omega) (by decide) dX7_changes_79 (fun H locs hW hS => ?_)
        obtain ⟨M_5, eM_5⟩ : ∃ M9, M9 = xu_p z52 (r + 3) k52 (z52 (r + 1) k52) := ⟨_, rfl⟩
        rw [← eM_5] at hW
        refine lv_iinc (v := (nI (k52 + 1))) (lv' := [(1, .int (nI (k52 + 1))), (0, .ref r)]) hx hb dX7_changes_80 hl (k := 0) rfl ((nI_1 k52)) (by decide) rfl (fun ls hl => ?_)
        refine lv_goto (tgt := 52) hx hb dX7_changes_83 (by decide) ?_
        exact ih52 M_5 _ _ _ ⟨hW, hS, lv_sub hl [0, 1] rfl, (fun x hx => by rw [eM_5, xu_p, xr_n _ _ hx]; exact hE52 x hx)⟩
  · exact absurd c_1 (by rw [hh]; decide)

set_option maxHeartbeats 4000000 in
set_option maxRecDepth 100000 in
/-- HalfTicketsModel.keeps -/
theorem c_X7_keeps (l : Launch) {G : va_G} {g : Nat → ClassId} {t0 τ : Nat → Nat} {A : Nat → Prop} (O : xk_O τ A) (M : xm_T) (r : Nat) (hτ : τ r = 20) : Met l yX7_keeps wsX7_keeps ({ frames := 0, cells := 0, slots := 0, locals := 0 }) (va_Pc [.ref r] (xS_t G g t0 τ A M)) (va_Qv (fun M' => (∀ j, M' (r + 2) j = if j < 326 then M (r + 1) j else M (r + 2) j) ∧ ∀ x, x ≠ r + 2 → M' x = M x) (fun M' t => xw_D G g τ M' t.heap) A) 0 0 A := by
  refine Met.ofW (cc := cX7_keeps) (maxL := 2) (ret := none) (by decide) rfl ?_
  intro p e s m args below meth c s₁ B hml hv
  obtain ⟨rfl, hW, hK, hst, hnw⟩ := hv
  have hx := B.exec
  have hb := B.bytes
  have hr := B.returns
  have hts := atoms_spec (ws := wsX7_keeps) B.pre
  have hown : s.vm.findClass RX7 = some m.cls := findClass_of_methodNamed B.named
  have hlocks := B.notSynchronized
  have hS : va_S A s.heap s.heap [] := va_S.rf
  have inX7 : ∀ w ∈ u_ws RX7 TX7 12, w ∈ wsX7_keeps := by decide +kernel
  have hl := lv_entry ([.ref r]) (n := 2) (Nat.le_of_ble_eq_true rfl)
  rw [lg_entry_eq]
  generalize (lg_sl ([.ref r]) ++ List.replicate (2 - (lg_sl ([.ref r])).length) Slot.unset).toArray = ls at hl ⊢
  have hl : lv_has ls 2 [(0, .ref r)] := hl
  refine lv_iconst (v := (nI 0)) hx hb dX7_keeps_0 (by decide) ?_
  refine lv_istore_n (lv' := [(1, .int (nI 0)), (0, .ref r)]) hx hb dX7_keeps_1 rfl hl (by decide) rfl (fun ls hl => ?_)
  refine xl_up (σ := xm_T) 326 (fun kk zz H locs ls => xw_D G g τ zz H ∧ va_S A s.heap H locs ∧ lv_has ls 2 [(1, .int (nI kk)), (0, .ref r)] ∧ (∀ j, zz (r + 2) j = if j < kk then M (r + 1) j else M (r + 2) j) ∧ ∀ x, x ≠ r + 2 → zz x = M x) (fun z2 H locs ls hI => ?_) (fun k2 z2 H locs ls hk2 hI ih2 => ?_) (k0 := 0) (z0 := M) (Nat.zero_le _) ⟨hW, hS, lv_sub hl [0, 1] rfl, ⟨fun j => (if_neg (Nat.not_lt_zero j)).symm, fun _ _ => rfl⟩⟩
  · obtain ⟨hW, hS, hl, hE2⟩ := hI
    refine lv_iload_n hx hb dX7_keeps_2 rfl (lv_at hl 0 rfl) ?_
    refine lv_sipush (v := (nI 326)) hx hb dX7_keeps_3 (by decide) ?_
    refine lv_icmp_ge (tgt := 27) hx hb dX7_keeps_6 (by decide) (fun c_1 => ?_) (fun c_1 => ?_)
    · exact W.vret hx hb hr (fun t ht hWm => ⟨⟨z2, rfl, hE2, xw_end ht hW⟩, hS.F ht⟩) hS.2.2 dX7_keeps_27
    · exact absurd (nI_le (Nat.le_refl _) (by decide)) c_1
  · obtain ⟨hW, hS, hl, hE2⟩ := hI
    refine lv_iload_n hx hb dX7_keeps_2 rfl (lv_at hl 0 rfl) ?_
    refine lv_sipush (v := (nI 326)) hx hb dX7_keeps_3 (by decide) ?_
    refine lv_icmp_ge (tgt := 27) hx hb dX7_keeps_6 (by decide) (fun c_2 => ?_) (fun c_2 => ?_)
    · exact absurd c_2 (nI_ge hk2 (by decide))
    · refine lv_aload_n hx hb dX7_keeps_9 rfl (lv_at hl 1 rfl) ?_
      refine xg_get (κ := 20) (ci := 7) (C := RX7) (T := TX7) (N := 12) hx hb hts inX7 hown hK hW hτ (by decide) rfl rfl 1 (by decide) (hts (.fieldLink RX7 13 "HalfTicketsModel" "kept" "[I") (List.mem_of_getElem? (i := 1) (by decide +kernel))) (fun _ h9 => h9) rfl dX7_keeps_10 ?_
      refine lv_iload_n hx hb dX7_keeps_13 rfl (lv_at hl 0 rfl) ?_
      refine lv_aload_n hx hb dX7_keeps_14 rfl (lv_at hl 1 rfl) ?_
      refine xg_get (κ := 20) (ci := 7) (C := RX7) (T := TX7) (N := 12) hx hb hts inX7 hown hK hW hτ (by decide) rfl rfl 0 (by decide) (hts (.fieldLink RX7 7 "HalfTicketsModel" "all" "[I") (List.mem_of_getElem? (i := 2) (by decide +kernel))) (fun _ h9 => h9) rfl dX7_keeps_15 ?_
      refine lv_iload_n hx hb dX7_keeps_18 rfl (lv_at hl 0 rfl) ?_
      refine xg_iald (κ := 426) (n := 326) hx hb hK hW (O.n1 hτ) (by decide) rfl k2 rfl hk2 (by decide) dX7_keeps_19 ?_
      refine xg_iast (κ := 426) (n := 326) hx hb hK O hW hS (O.n2 hτ) (by decide) (fun _ => rfl) (fun _ => trivial) k2 rfl hk2 (by decide) dX7_keeps_20 (fun H locs hW hS => ?_)
      obtain ⟨M_3, eM_3⟩ : ∃ M9, M9 = xu_p z2 (r + 2) k2 (z2 (r + 1) k2) := ⟨_, rfl⟩
      rw [← eM_3] at hW
      refine lv_iinc (v := (nI (k2 + 1))) (lv' := [(1, .int (nI (k2 + 1))), (0, .ref r)]) hx hb dX7_keeps_21 hl (k := 0) rfl ((nI_1 k2)) (by decide) rfl (fun ls hl => ?_)
      refine lv_goto (tgt := 2) hx hb dX7_keeps_24 (by decide) ?_
      exact ih2 M_3 _ _ _ ⟨hW, hS, lv_sub hl [0, 1] rfl, ⟨(fun j => by
            rw [eM_3]
            by_cases hjk : j = k2
            · subst hjk
              rw [xu_s, if_pos (Nat.lt_succ_self _), hE2.2 _ (by omega)]
            · rw [xu_n _ (Or.inr hjk), hE2.1 j]
              by_cases hlt : j < k2
              · rw [if_pos hlt, if_pos (by omega)]
              · rw [if_neg hlt, if_neg (by omega)]), (fun x hx => by rw [eM_3, xu_p, xr_n _ _ hx]; exact hE2.2 x hx)⟩⟩

set_option maxHeartbeats 4000000 in
set_option maxRecDepth 100000 in
/-- HalfTicketsModel.comesBack -/
theorem c_X7_comesBack (l : Launch) {G : va_G} {g : Nat → ClassId} {t0 τ : Nat → Nat} {A : Nat → Prop} (O : xk_O τ A) (M : xm_T) (r : Nat) (hτ : τ r = 20) : Met l yX7_comesBack wsX7_comesBack ({ frames := 0, cells := 0, slots := 0, locals := 0 }) (va_Pc [.ref r] (xS_t G g t0 τ A M)) (va_Qv (fun M' => (∀ j, M' (r + 1) j = if j < 326 then M (r + 2) j else M (r + 1) j) ∧ ∀ x, x ≠ r + 1 → M' x = M x) (fun M' t => xw_D G g τ M' t.heap) A) 0 0 A := by
  refine Met.ofW (cc := cX7_comesBack) (maxL := 2) (ret := none) (by decide) rfl ?_
  intro p e s m args below meth c s₁ B hml hv
  obtain ⟨rfl, hW, hK, hst, hnw⟩ := hv
  have hx := B.exec
  have hb := B.bytes
  have hr := B.returns
  have hts := atoms_spec (ws := wsX7_comesBack) B.pre
  have hown : s.vm.findClass RX7 = some m.cls := findClass_of_methodNamed B.named
  have hlocks := B.notSynchronized
  have hS : va_S A s.heap s.heap [] := va_S.rf
  have inX7 : ∀ w ∈ u_ws RX7 TX7 12, w ∈ wsX7_comesBack := by decide +kernel
  have hl := lv_entry ([.ref r]) (n := 2) (Nat.le_of_ble_eq_true rfl)
  rw [lg_entry_eq]
  generalize (lg_sl ([.ref r]) ++ List.replicate (2 - (lg_sl ([.ref r])).length) Slot.unset).toArray = ls at hl ⊢
  have hl : lv_has ls 2 [(0, .ref r)] := hl
  refine lv_iconst (v := (nI 0)) hx hb dX7_comesBack_0 (by decide) ?_
  refine lv_istore_n (lv' := [(1, .int (nI 0)), (0, .ref r)]) hx hb dX7_comesBack_1 rfl hl (by decide) rfl (fun ls hl => ?_)
  refine xl_up (σ := xm_T) 326 (fun kk zz H locs ls => xw_D G g τ zz H ∧ va_S A s.heap H locs ∧ lv_has ls 2 [(1, .int (nI kk)), (0, .ref r)] ∧ (∀ j, zz (r + 1) j = if j < kk then M (r + 2) j else M (r + 1) j) ∧ ∀ x, x ≠ r + 1 → zz x = M x) (fun z2 H locs ls hI => ?_) (fun k2 z2 H locs ls hk2 hI ih2 => ?_) (k0 := 0) (z0 := M) (Nat.zero_le _) ⟨hW, hS, lv_sub hl [0, 1] rfl, ⟨fun j => (if_neg (Nat.not_lt_zero j)).symm, fun _ _ => rfl⟩⟩
  · obtain ⟨hW, hS, hl, hE2⟩ := hI
    refine lv_iload_n hx hb dX7_comesBack_2 rfl (lv_at hl 0 rfl) ?_
    refine lv_sipush (v := (nI 326)) hx hb dX7_comesBack_3 (by decide) ?_
    refine lv_icmp_ge (tgt := 27) hx hb dX7_comesBack_6 (by decide) (fun c_1 => ?_) (fun c_1 => ?_)
    · exact W.vret hx hb hr (fun t ht hWm => ⟨⟨z2, rfl, hE2, xw_end ht hW⟩, hS.F ht⟩) hS.2.2 dX7_comesBack_27
    · exact absurd (nI_le (Nat.le_refl _) (by decide)) c_1
  · obtain ⟨hW, hS, hl, hE2⟩ := hI
    refine lv_iload_n hx hb dX7_comesBack_2 rfl (lv_at hl 0 rfl) ?_
    refine lv_sipush (v := (nI 326)) hx hb dX7_comesBack_3 (by decide) ?_
    refine lv_icmp_ge (tgt := 27) hx hb dX7_comesBack_6 (by decide) (fun c_2 => ?_) (fun c_2 => ?_)
    · exact absurd c_2 (nI_ge hk2 (by decide))
    · refine lv_aload_n hx hb dX7_comesBack_9 rfl (lv_at hl 1 rfl) ?_
      refine xg_get (κ := 20) (ci := 7) (C := RX7) (T := TX7) (N := 12) hx hb hts inX7 hown hK hW hτ (by decide) rfl rfl 0 (by decide) (hts (.fieldLink RX7 7 "HalfTicketsModel" "all" "[I") (List.mem_of_getElem? (i := 1) (by decide +kernel))) (fun _ h9 => h9) rfl dX7_comesBack_10 ?_
      refine lv_iload_n hx hb dX7_comesBack_13 rfl (lv_at hl 0 rfl) ?_
      refine lv_aload_n hx hb dX7_comesBack_14 rfl (lv_at hl 1 rfl) ?_
      refine xg_get (κ := 20) (ci := 7) (C := RX7) (T := TX7) (N := 12) hx hb hts inX7 hown hK hW hτ (by decide) rfl rfl 1 (by decide) (hts (.fieldLink RX7 13 "HalfTicketsModel" "kept" "[I") (List.mem_of_getElem? (i := 2) (by decide +kernel))) (fun _ h9 => h9) rfl dX7_comesBack_15 ?_
      refine lv_iload_n hx hb dX7_comesBack_18 rfl (lv_at hl 0 rfl) ?_
      refine xg_iald (κ := 426) (n := 326) hx hb hK hW (O.n2 hτ) (by decide) rfl k2 rfl hk2 (by decide) dX7_comesBack_19 ?_
      refine xg_iast (κ := 426) (n := 326) hx hb hK O hW hS (O.n1 hτ) (by decide) (fun _ => rfl) (fun _ => trivial) k2 rfl hk2 (by decide) dX7_comesBack_20 (fun H locs hW hS => ?_)
      obtain ⟨M_3, eM_3⟩ : ∃ M9, M9 = xu_p z2 (r + 1) k2 (z2 (r + 2) k2) := ⟨_, rfl⟩
      rw [← eM_3] at hW
      refine lv_iinc (v := (nI (k2 + 1))) (lv' := [(1, .int (nI (k2 + 1))), (0, .ref r)]) hx hb dX7_comesBack_21 hl (k := 0) rfl ((nI_1 k2)) (by decide) rfl (fun ls hl => ?_)
      refine lv_goto (tgt := 2) hx hb dX7_comesBack_24 (by decide) ?_
      exact ih2 M_3 _ _ _ ⟨hW, hS, lv_sub hl [0, 1] rfl, ⟨(fun j => by
            rw [eM_3]
            by_cases hjk : j = k2
            · subst hjk
              rw [xu_s, if_pos (Nat.lt_succ_self _), hE2.2 _ (by omega)]
            · rw [xu_n _ (Or.inr hjk), hE2.1 j]
              by_cases hlt : j < k2
              · rw [if_pos hlt, if_pos (by omega)]
              · rw [if_neg hlt, if_neg (by omega)]), (fun x hx => by rw [eM_3, xu_p, xr_n _ _ hx]; exact hE2.2 x hx)⟩⟩

set_option maxHeartbeats 4000000 in
set_option maxRecDepth 100000 in
/-- HalfTicketsModel.sum -/
theorem c_X7_sum (l : Launch) {G : va_G} {g : Nat → ClassId} {t0 τ : Nat → Nat} {A : Nat → Prop} (O : xk_O τ A) (M : xm_T) (r : Nat) (hτ : τ r = 20) {o : Nat} (ho : o ≤ 300) : Met l yX7_sum wsX7_sum ({ frames := 0, cells := 0, slots := 0, locals := 0 }) (va_Pc [.ref r, .int (nI o)] (xS_t G g t0 τ A M)) (va_Qi (fun v M' => v = xf_sum (fun k => M (r + 1) (o + k)) 6 ∧ M' = M) (fun M' t => xw_D G g τ M' t.heap) A) 0 0 A := by
  refine Met.ofW (cc := cX7_sum) (maxL := 4) (ret := (some .int)) (by decide) rfl ?_
  intro p e s m args below meth c s₁ B hml hv
  obtain ⟨rfl, hW, hK, hst, hnw⟩ := hv
  have hx := B.exec
  have hb := B.bytes
  have hr := B.returns
  have hts := atoms_spec (ws := wsX7_sum) B.pre
  have hown : s.vm.findClass RX7 = some m.cls := findClass_of_methodNamed B.named
  have hlocks := B.notSynchronized
  have hS : va_S A s.heap s.heap [] := va_S.rf
  have inX7 : ∀ w ∈ u_ws RX7 TX7 12, w ∈ wsX7_sum := by decide +kernel
  have hl := lv_entry ([.ref r, .int (nI o)]) (n := 4) (Nat.le_of_ble_eq_true rfl)
  rw [lg_entry_eq]
  generalize (lg_sl ([.ref r, .int (nI o)]) ++ List.replicate (4 - (lg_sl ([.ref r, .int (nI o)])).length) Slot.unset).toArray = ls at hl ⊢
  have hl : lv_has ls 4 [(0, .ref r), (1, .int (nI o))] := hl
  refine lv_iconst (v := (nI 0)) hx hb dX7_sum_0 (by decide) ?_
  refine lv_istore_n (lv' := [(2, .int (nI 0)), (0, .ref r), (1, .int (nI o))]) hx hb dX7_sum_1 rfl hl (by decide) rfl (fun ls hl => ?_)
  refine lv_iconst (v := (nI 0)) hx hb dX7_sum_2 (by decide) ?_
  refine lv_istore_n (lv' := [(3, .int (nI 0)), (2, .int (nI 0)), (0, .ref r), (1, .int (nI o))]) hx hb dX7_sum_3 rfl hl (by decide) rfl (fun ls hl => ?_)
  refine xl_up (σ := Int32) 6 (fun kk zz H locs ls => xw_D G g τ M H ∧ va_S A s.heap H locs ∧ lv_has ls 4 [(3, .int (nI kk)), (2, .int zz), (0, .ref r), (1, .int (nI o))] ∧ zz = xf_sum (fun k => M (r + 1) (o + k)) kk) (fun z4 H locs ls hI => ?_) (fun k4 z4 H locs ls hk4 hI ih4 => ?_) (k0 := 0) (z0 := (nI 0)) (Nat.zero_le _) ⟨hW, hS, lv_sub hl [0, 1, 2, 3] rfl, rfl⟩
  · obtain ⟨hW, hS, hl, hE4⟩ := hI
    refine lv_iload_n hx hb dX7_sum_4 rfl (lv_at hl 0 rfl) ?_
    refine lv_bipush (v := (nI 6)) hx hb dX7_sum_5 (by decide) ?_
    refine lv_icmp_ge (tgt := 27) hx hb dX7_sum_7 (by decide) (fun c_1 => ?_) (fun c_1 => ?_)
    · refine lv_iload_n hx hb dX7_sum_27 rfl (lv_at hl 1 rfl) ?_
      exact W.iret (v := z4) hx hb hr (fun t ht hWm => ⟨⟨z4, M, rfl, ⟨hE4, rfl⟩, xw_end ht hW⟩, hS.F ht⟩) hS.2.2 dX7_sum_28
    · exact absurd (nI_le (Nat.le_refl _) (by decide)) c_1
  · obtain ⟨hW, hS, hl, hE4⟩ := hI
    refine lv_iload_n hx hb dX7_sum_4 rfl (lv_at hl 0 rfl) ?_
    refine lv_bipush (v := (nI 6)) hx hb dX7_sum_5 (by decide) ?_
    refine lv_icmp_ge (tgt := 27) hx hb dX7_sum_7 (by decide) (fun c_2 => ?_) (fun c_2 => ?_)
    · exact absurd c_2 (nI_ge hk4 (by decide))
    · refine lv_iload_n hx hb dX7_sum_10 rfl (lv_at hl 1 rfl) ?_
      refine lv_aload_n hx hb dX7_sum_11 rfl (lv_at hl 2 rfl) ?_
      refine xg_get (κ := 20) (ci := 7) (C := RX7) (T := TX7) (N := 12) hx hb hts inX7 hown hK hW hτ (by decide) rfl rfl 0 (by decide) (hts (.fieldLink RX7 7 "HalfTicketsModel" "all" "[I") (List.mem_of_getElem? (i := 1) (by decide +kernel))) (fun _ h9 => h9) rfl dX7_sum_12 ?_
      refine lv_iload_n hx hb dX7_sum_15 rfl (lv_at hl 3 rfl) ?_
      refine lv_iload_n hx hb dX7_sum_16 rfl (lv_at hl 0 rfl) ?_
      refine lv_iadd hx hb dX7_sum_17 ?_
      refine xg_iald (κ := 426) (n := 326) hx hb hK hW (O.n1 hτ) (by decide) rfl (o + k4) (nI_add o k4) (by omega) (by decide) dX7_sum_18 ?_
      refine lv_iadd hx hb dX7_sum_19 ?_
      refine lv_istore_n (lv' := [(2, .int (z4 + (M (r + 1) (o + k4)))), (3, .int (nI k4)), (0, .ref r), (1, .int (nI o))]) hx hb dX7_sum_20 rfl hl (by decide) rfl (fun ls hl => ?_)
      refine lv_iinc (v := (nI (k4 + 1))) (lv' := [(3, .int (nI (k4 + 1))), (2, .int (z4 + (M (r + 1) (o + k4)))), (0, .ref r), (1, .int (nI o))]) hx hb dX7_sum_21 hl (k := 1) rfl ((nI_1 k4)) (by decide) rfl (fun ls hl => ?_)
      refine lv_goto (tgt := 4) hx hb dX7_sum_24 (by decide) ?_
      exact ih4 (z4 + (M (r + 1) (o + k4))) _ _ _ ⟨hW, hS, lv_sub hl [0, 1, 2, 3] rfl, (by rw [hE4]; rfl)⟩

set_option maxHeartbeats 4000000 in
set_option maxRecDepth 100000 in
/-- HalfTicketsModel.isSlot -/
theorem c_X7_isSlot (l : Launch) {G : va_G} {g : Nat → ClassId} {t0 τ : Nat → Nat} {A : Nat → Prop} (O : xk_O τ A) (M : xm_T) (i : Int32) : Met l yX7_isSlot wsX7_isSlot ({ frames := 0, cells := 0, slots := 0, locals := 0 }) (va_Pc [.int i] (xS_t G g t0 τ A M)) (va_Qi (fun v M' => v = (if i = 0 then nI 1 else if i = nI 1 then nI 1 else nI 0) ∧ M' = M) (fun M' t => xw_D G g τ M' t.heap) A) 0 0 A := by
  refine Met.ofW (cc := cX7_isSlot) (maxL := 1) (ret := (some .boolean)) (by decide) rfl ?_
  intro p e s m args below meth c s₁ B hml hv
  obtain ⟨rfl, hW, hK, hst, hnw⟩ := hv
  have hx := B.exec
  have hb := B.bytes
  have hr := B.returns
  have hts := atoms_spec (ws := wsX7_isSlot) B.pre
  have hown : s.vm.findClass RX7 = some m.cls := findClass_of_methodNamed B.named
  have hlocks := B.notSynchronized
  have hS : va_S A s.heap s.heap [] := va_S.rf
  have hl := lv_entry ([.int i]) (n := 1) (Nat.le_of_ble_eq_true rfl)
  rw [lg_entry_eq]
  generalize (lg_sl ([.int i]) ++ List.replicate (1 - (lg_sl ([.int i])).length) Slot.unset).toArray = ls at hl ⊢
  have hl : lv_has ls 1 [(0, .int i)] := hl
  refine lv_iload_n hx hb dX7_isSlot_0 rfl (lv_at hl 0 rfl) ?_
  refine lv_if_eq (tgt := 9) hx hb dX7_isSlot_1 (by decide) (fun c_1 => ?_) (fun c_1 => ?_)
  · refine lv_iconst (v := (nI 1)) hx hb dX7_isSlot_9 (by decide) ?_
    refine lv_goto (tgt := 14) hx hb dX7_isSlot_10 (by decide) ?_
    exact W.zret (v := (nI 1)) hx hb hr rfl (fun t ht hWm => ⟨⟨(nI 1), M, rfl, ⟨(by rw [if_pos c_1]), rfl⟩, xw_end ht hW⟩, hS.F ht⟩) hS.2.2 dX7_isSlot_14
  · refine lv_iload_n hx hb dX7_isSlot_4 rfl (lv_at hl 0 rfl) ?_
    refine lv_iconst (v := (nI 1)) hx hb dX7_isSlot_5 (by decide) ?_
    refine lv_icmp_ne (tgt := 13) hx hb dX7_isSlot_6 (by decide) (fun c_2 => ?_) (fun c_2 => ?_)
    · refine lv_iconst (v := (nI 0)) hx hb dX7_isSlot_13 (by decide) ?_
      exact W.zret (v := (nI 0)) hx hb hr rfl (fun t ht hWm => ⟨⟨(nI 0), M, rfl, ⟨(by rw [if_neg c_1, if_neg c_2]), rfl⟩, xw_end ht hW⟩, hS.F ht⟩) hS.2.2 dX7_isSlot_14
    · refine lv_iconst (v := (nI 1)) hx hb dX7_isSlot_9 (by decide) ?_
      refine lv_goto (tgt := 14) hx hb dX7_isSlot_10 (by decide) ?_
      exact W.zret (v := (nI 1)) hx hb hr rfl (fun t ht hWm => ⟨⟨(nI 1), M, rfl, ⟨(by rw [if_neg c_1, if_pos c_2]), rfl⟩, xw_end ht hW⟩, hS.F ht⟩) hS.2.2 dX7_isSlot_14

set_option maxHeartbeats 4000000 in
set_option maxRecDepth 100000 in
/-- HalfTicketsModel.errandEnd -/
theorem ce_X7_errandEnd (l : Launch) {G : va_G} {g : Nat → ClassId} {t0 τ : Nat → Nat} {A : Nat → Prop} (O : xk_O τ A) (M : xm_T) (r : Nat) (hτ : τ r = 20) (ht : M r 8 = nI 0) (hd : M r 11 = nI 0) : Met l yX7_errandEnd wsX7_errandEnd ({ frames := 0, cells := 0, slots := 0, locals := 0 }) (va_Pc [.ref r, .int (nI 0)] (xS_t G g t0 τ A M)) (va_Qi (fun v M' => v = nI 0) (fun M' t => xw_D G g τ M' t.heap) A) 0 0 A := by
  refine Met.ofW (cc := cX7_errandEnd) (maxL := 3) (ret := (some .int)) (by decide) rfl ?_
  intro p e s m args below meth c s₁ B hml hv
  obtain ⟨rfl, hW, hK, hst, hnw⟩ := hv
  have hx := B.exec
  have hb := B.bytes
  have hr := B.returns
  have hts := atoms_spec (ws := wsX7_errandEnd) B.pre
  have hown : s.vm.findClass RX7 = some m.cls := findClass_of_methodNamed B.named
  have hlocks := B.notSynchronized
  have hS : va_S A s.heap s.heap [] := va_S.rf
  have inX7 : ∀ w ∈ u_ws RX7 TX7 12, w ∈ wsX7_errandEnd := by decide +kernel
  have hl := lv_entry ([.ref r, .int (nI 0)]) (n := 3) (Nat.le_of_ble_eq_true rfl)
  rw [lg_entry_eq]
  generalize (lg_sl ([.ref r, .int (nI 0)]) ++ List.replicate (3 - (lg_sl ([.ref r, .int (nI 0)])).length) Slot.unset).toArray = ls at hl ⊢
  have hl : lv_has ls 3 [(0, .ref r), (1, .int (nI 0))] := hl
  refine lv_iload_n hx hb dX7_errandEnd_0 rfl (lv_at hl 1 rfl) ?_
  refine lv_istore_n (lv' := [(2, .int (nI 0)), (0, .ref r), (1, .int (nI 0))]) hx hb dX7_errandEnd_1 rfl hl (by decide) rfl (fun ls hl => ?_)
  refine lv_aload_n hx hb dX7_errandEnd_2 rfl (lv_at hl 1 rfl) ?_
  refine xg_get (κ := 20) (ci := 7) (C := RX7) (T := TX7) (N := 12) hx hb hts inX7 hown hK hW hτ (by decide) rfl rfl 9 (by decide) (hts (.fieldLink RX7 31 "HalfTicketsModel" "errands" "[I") (List.mem_of_getElem? (i := 1) (by decide +kernel))) (fun _ h9 => h9) rfl dX7_errandEnd_3 ?_
  refine lv_aload_n hx hb dX7_errandEnd_6 rfl (lv_at hl 1 rfl) ?_
  refine xg_get (κ := 20) (ci := 7) (C := RX7) (T := TX7) (N := 12) hx hb hts inX7 hown hK hW hτ (by decide) rfl rfl 11 (by decide) (hts (.fieldLink RX7 164 "HalfTicketsModel" "read" "I") (List.mem_of_getElem? (i := 2) (by decide +kernel))) (fun _ h9 => h9) rfl dX7_errandEnd_7 ?_
  refine lv_iconst (v := (nI 0)) hx hb dX7_errandEnd_10 (by decide) ?_
  refine xg_iast (κ := 130) (n := 30) hx hb hK O hW hS (O.n8 hτ) (by decide) (fun _ => rfl) (fun _ => trivial) 0 hd (by decide) (by decide) dX7_errandEnd_11 (fun H locs hW hS => ?_)
  obtain ⟨M_1, eM_1⟩ : ∃ M9, M9 = xu_p M (r + 8) 0 (nI 0) := ⟨_, rfl⟩
  rw [← eM_1] at hW
  refine lv_iload_n hx hb dX7_errandEnd_12 rfl (lv_at hl 0 rfl) ?_
  refine lv_aload_n hx hb dX7_errandEnd_13 rfl (lv_at hl 1 rfl) ?_
  refine xg_get (κ := 20) (ci := 7) (C := RX7) (T := TX7) (N := 12) hx hb hts inX7 hown hK hW hτ (by decide) rfl rfl 8 (by decide) (hts (.fieldLink RX7 135 "HalfTicketsModel" "textLong" "I") (List.mem_of_getElem? (i := 3) (by decide +kernel))) (fun _ h9 => h9) rfl dX7_errandEnd_14 ?_
  refine lv_icmp_ge (tgt := 102) hx hb dX7_errandEnd_17 (by decide) (fun c_2 => ?_) (fun c_2 => ?_)
  · refine lv_aload_n hx hb dX7_errandEnd_102 rfl (lv_at hl 1 rfl) ?_
    refine xg_get (κ := 20) (ci := 7) (C := RX7) (T := TX7) (N := 12) hx hb hts inX7 hown hK hW hτ (by decide) rfl rfl 10 (by decide) (hts (.fieldLink RX7 34 "HalfTicketsModel" "lengths" "[I") (List.mem_of_getElem? (i := 7) (by decide +kernel))) (fun _ h9 => h9) rfl dX7_errandEnd_103 ?_
    refine lv_aload_n hx hb dX7_errandEnd_106 rfl (lv_at hl 1 rfl) ?_
    refine xg_get (κ := 20) (ci := 7) (C := RX7) (T := TX7) (N := 12) hx hb hts inX7 hown hK hW hτ (by decide) rfl rfl 11 (by decide) (hts (.fieldLink RX7 164 "HalfTicketsModel" "read" "I") (List.mem_of_getElem? (i := 2) (by decide +kernel))) (fun _ h9 => h9) rfl dX7_errandEnd_107 ?_
    refine lv_iload_n hx hb dX7_errandEnd_110 rfl (lv_at hl 0 rfl) ?_
    refine lv_iload_n hx hb dX7_errandEnd_111 rfl (lv_at hl 2 rfl) ?_
    refine lv_isub hx hb dX7_errandEnd_112 ?_
    refine xg_iast (κ := 130) (n := 30) hx hb hK O hW hS (O.n9 hτ) (by decide) (fun _ => rfl) (fun _ => trivial) 0 (by rw [eM_1, xu_p, xr_n _ _ (by omega)]; exact hd) (by decide) (by decide) dX7_errandEnd_113 (fun H locs hW hS => ?_)
    obtain ⟨M_3, eM_3⟩ : ∃ M9, M9 = xu_p M_1 (r + 9) 0 ((nI 0) - (nI 0)) := ⟨_, rfl⟩
    rw [← eM_3] at hW
    refine lv_iload_n hx hb dX7_errandEnd_114 rfl (lv_at hl 0 rfl) ?_
    exact W.iret (v := (nI 0)) hx hb hr (fun t ht hWm => ⟨⟨(nI 0), M_3, rfl, rfl, xw_end ht hW⟩, hS.F ht⟩) hS.2.2 dX7_errandEnd_115
  · exact absurd (by rw [eM_1, xu_p, xr_n _ _ (by omega), ht]; exact nI_le (Nat.le_refl _) (by decide)) c_2
