/-! LINES AND PEOPLE: what the methods do, as functions -/
def zl_pr (M : xm_T) (q : Nat) (n : Int32) (L : Nat) : Int32 := if zl_pl (M (q + 1)) n L < L then nI (zl_pl (M (q + 1)) n L) else -6
theorem zn_6 {j : Nat} (h : j < 2 ^ 31) : ¬ nI j = -6 := fun z => nI_pos h (by rw [z]; decide)
theorem zl_pl_le {f : Nat → Int32} {n : Int32} : ∀ {L : Nat}, zl_pl f n L ≤ L
  | 0 => Nat.le_refl 0
  | L + 1 => by
    have := zl_pl_le (f := f) (n := n) (L := L)
    show (if zl_pl f n L < L then zl_pl f n L else if f L = n then L else L + 1) ≤ L + 1
    split
    · omega
    · split <;> omega
/-- the numbers from j on, one down, as far as k -/
def zl_sh (M : xm_T) (q j k : Nat) : xm_T := xr_up M (q + 1) (fun i => if j ≤ i ∧ i < k then M (q + 1) (i + 1) else M (q + 1) i)
theorem zl_sh_0 (M : xm_T) (q j : Nat) : zl_sh M q j j = M := by
  funext x
  unfold zl_sh
  by_cases h : x = q + 1
  · subst h
    rw [xr_s]
    funext i
    rw [if_neg (by omega)]
  · rw [xr_n _ _ h]
theorem zl_sh_1 {M : xm_T} {q j k : Nat} (h : j ≤ k) : xu_p (zl_sh M q j k) (q + 1) k (zl_sh M q j k (q + 1) (k + 1)) = zl_sh M q j (k + 1) := by
  funext x
  unfold zl_sh xu_p
  by_cases hx : x = q + 1
  · subst hx
    rw [xr_s, xr_s, xr_s]
    funext i
    unfold upd
    by_cases hi : i = k
    · subst hi
      rw [if_pos rfl, if_neg (by omega), if_pos (by omega)]
    · rw [if_neg hi]
      show (if j ≤ i ∧ i < k then M (q + 1) (i + 1) else M (q + 1) i) = _
      by_cases h2 : j ≤ i ∧ i < k
      · rw [if_pos h2, if_pos (by omega)]
      · rw [if_neg h2, if_neg (by omega)]
  · rw [xr_n _ _ hx, xr_n _ _ hx, xr_n _ _ hx]
theorem zl_sh_q {M : xm_T} {q j k : Nat} : zl_sh M q j k q = M q := by
  unfold zl_sh
  rw [xr_n _ _ (by omega)]
theorem zl_rv_sh {M : xm_T} {q j L : Nat} {n : Int32} (hM : M q 1 = nI L) (hL : L ≤ 24) (hj : zl_pl (M (q + 1)) n L = j) (hjL : j < L) : zl_rv q n M = zl_sh (xu_p M q 1 (M q 1 - nI 1)) q j (L - 1) := by
  have hc : (M q 1).toNatClampNeg = L := by rw [hM, nI_clamp (by omega)]
  unfold zl_rv
  rw [hc, hj, if_pos hjL]
  unfold zl_rm zl_sh
  rw [hc]
  congr 1
  funext i
  rw [show xu_p M q 1 (M q 1 - nI 1) (q + 1) = M (q + 1) from xr_n _ _ (by omega)]
  by_cases h : j ≤ i ∧ i + 1 < L
  · rw [if_pos h, if_pos (by omega)]
  · rw [if_neg h, if_neg (by omega)]
theorem zl_rv_no {M : xm_T} {q j L : Nat} {n : Int32} (hM : M q 1 = nI L) (hL : L ≤ 24) (hj : zl_pl (M (q + 1)) n L = j) (hjL : L ≤ j) : zl_rv q n M = M := by
  unfold zl_rv
  rw [show (M q 1).toNatClampNeg = L by rw [hM, nI_clamp (by omega)], hj, if_neg (by omega)]
def zs_at (M : xm_T) (p : Nat) : Int32 := if (M p 3 = nI 0 ∨ M p 3 = nI 1) ∧ M p 4 < M p 2 then M (p + 1) (M p 4).toNatClampNeg else -6
theorem zs_in {M : xm_T} {p t m w : Nat} (h : zk_at M p t m w) (hw : M p 3 = nI 0 ∨ M p 3 = nI 1) : zs_at M p = nI w := by
  obtain ⟨h1, h2, h3, h4, h5, h6⟩ := h
  unfold zs_at
  rw [if_pos ⟨hw, by rw [h1, h2]; exact nI_lt h3 (by omega)⟩, h2, nI_clamp (by omega), h5]

set_option maxHeartbeats 4000000 in
set_option maxRecDepth 100000 in
/-- Line.placeOf(n) -/
theorem c_X1_placeOf (l : Launch) {G : va_G} {g : Nat → ClassId} {t0 τ : Nat → Nat} {A : Nat → Prop} (O : xk_O τ A) (M : xm_T) (q : Nat) (hτ : τ q = 6) {L : Nat} (hL : L ≤ 24) (hM : M q 1 = nI L) (n : Int32) : Met l yX1_placeOf wsX1_placeOf ({ frames := 0, cells := 0, slots := 0, locals := 0 }) (va_Pc [.ref q, .int n] (xS_t G g t0 τ A M)) (va_Qi (fun r M' => r = zl_pr M q n L ∧ M' = M) (fun M' t => xw_D G g τ M' t.heap) A) 0 0 A := by
  refine Met.ofW (cc := cX1_placeOf) (maxL := 3) (ret := (some .int)) (by decide) rfl ?_
  intro p e s m args below meth c s₁ B hml hv
  obtain ⟨rfl, hW, hK, hst, hnw⟩ := hv
  have hx := B.exec
  have hb := B.bytes
  have hr := B.returns
  have hts := atoms_spec (ws := wsX1_placeOf) B.pre
  have hown : s.vm.findClass RX1 = some m.cls := findClass_of_methodNamed B.named
  have hlocks := B.notSynchronized
  have hS : va_S A s.heap s.heap [] := va_S.rf
  have inX1 : ∀ w ∈ u_ws RX1 TX1 2, w ∈ wsX1_placeOf := by decide +kernel
  have hl := lv_entry ([.ref q, .int n]) (n := 3) (Nat.le_of_ble_eq_true rfl)
  rw [lg_entry_eq]
  generalize (lg_sl ([.ref q, .int n]) ++ List.replicate (3 - (lg_sl ([.ref q, .int n])).length) Slot.unset).toArray = ls at hl ⊢
  have hl : lv_has ls 3 [(0, .ref q), (1, .int n)] := hl
  refine lv_iconst (v := (nI 0)) hx hb dX1_placeOf_0 (by decide) ?_
  refine lv_istore_n (lv' := [(2, .int (nI 0)), (0, .ref q), (1, .int n)]) hx hb dX1_placeOf_1 rfl hl (by decide) rfl (fun ls hl => ?_)
  refine xl_up (σ := Unit) L (fun kk zz H locs ls => xw_D G g τ M H ∧ va_S A s.heap H locs ∧ lv_has ls 3 [(2, .int (nI kk)), (0, .ref q), (1, .int n)] ∧ ∀ j, j < kk → M (q + 1) j ≠ n) (fun z2 H locs ls hI => ?_) (fun k2 z2 H locs ls hk2 hI ih2 => ?_) (k0 := 0) (z0 := ()) (Nat.zero_le _) ⟨hW, hS, lv_sub hl [0, 1, 2] rfl, (fun j hj => absurd hj (Nat.not_lt_zero j))⟩
  · obtain ⟨hW, hS, hl, hE2⟩ := hI
    refine lv_iload_n hx hb dX1_placeOf_2 rfl (lv_at hl 0 rfl) ?_
    refine lv_aload_n hx hb dX1_placeOf_3 rfl (lv_at hl 1 rfl) ?_
    refine xg_get (κ := 6) (ci := 1) (C := RX1) (T := TX1) (N := 2) hx hb hts inX1 hown hK hW hτ (by decide) rfl rfl 1 (by decide) (hts (.fieldLink RX1 15 "HalfTickets$Line" "length" "I") (List.mem_of_getElem? (i := 1) (by decide +kernel))) (fun _ h9 => h9) rfl dX1_placeOf_4 ?_
    refine lv_icmp_ge (tgt := 28) hx hb dX1_placeOf_7 (by decide) (fun c_1 => ?_) (fun c_1 => ?_)
    · refine lv_bipush (v := (-6)) hx hb dX1_placeOf_28 (by decide) ?_
      exact W.iret (v := (-6)) hx hb hr (fun t ht hWm => ⟨⟨(-6), M, rfl, ⟨(by unfold zl_pr; rw [zl_pl_none hE2, if_neg (Nat.lt_irrefl _)]), rfl⟩, xw_end ht hW⟩, hS.F ht⟩) hS.2.2 dX1_placeOf_30
    · exact absurd (by rw [hM]; exact nI_le (Nat.le_refl _) (by omega)) c_1
  · obtain ⟨hW, hS, hl, hE2⟩ := hI
    refine lv_iload_n hx hb dX1_placeOf_2 rfl (lv_at hl 0 rfl) ?_
    refine lv_aload_n hx hb dX1_placeOf_3 rfl (lv_at hl 1 rfl) ?_
    refine xg_get (κ := 6) (ci := 1) (C := RX1) (T := TX1) (N := 2) hx hb hts inX1 hown hK hW hτ (by decide) rfl rfl 1 (by decide) (hts (.fieldLink RX1 15 "HalfTickets$Line" "length" "I") (List.mem_of_getElem? (i := 1) (by decide +kernel))) (fun _ h9 => h9) rfl dX1_placeOf_4 ?_
    refine lv_icmp_ge (tgt := 28) hx hb dX1_placeOf_7 (by decide) (fun c_2 => ?_) (fun c_2 => ?_)
    · exact absurd c_2 (by rw [hM]; exact nI_ge hk2 (by omega))
    · refine lv_aload_n hx hb dX1_placeOf_10 rfl (lv_at hl 1 rfl) ?_
      refine xg_get (κ := 6) (ci := 1) (C := RX1) (T := TX1) (N := 2) hx hb hts inX1 hown hK hW hτ (by decide) rfl rfl 0 (by decide) (hts (.fieldLink RX1 9 "HalfTickets$Line" "numbers" "[I") (List.mem_of_getElem? (i := 2) (by decide +kernel))) (fun _ h9 => h9) rfl dX1_placeOf_11 ?_
      refine lv_iload_n hx hb dX1_placeOf_14 rfl (lv_at hl 0 rfl) ?_
      refine xg_iald (κ := 124) (n := 24) hx hb hK hW (O.l hτ) (by decide) rfl k2 rfl (by omega) (by decide) dX1_placeOf_15 ?_
      refine lv_iload_n hx hb dX1_placeOf_16 rfl (lv_at hl 2 rfl) ?_
      refine lv_icmp_ne (tgt := 22) hx hb dX1_placeOf_17 (by decide) (fun c_3 => ?_) (fun c_3 => ?_)
      · refine lv_iinc (v := (nI (k2 + 1))) (lv' := [(2, .int (nI (k2 + 1))), (0, .ref q), (1, .int n)]) hx hb dX1_placeOf_22 hl (k := 0) rfl ((nI_1 k2)) (by decide) rfl (fun ls hl => ?_)
        refine lv_goto (tgt := 2) hx hb dX1_placeOf_25 (by decide) ?_
        exact ih2 () _ _ _ ⟨hW, hS, lv_sub hl [0, 1, 2] rfl, (fun j hj => by
              by_cases hjk : j = k2
              · subst hjk
                exact c_3
              · exact hE2 j (by omega))⟩
      · refine lv_iload_n hx hb dX1_placeOf_20 rfl (lv_at hl 0 rfl) ?_
        exact W.iret (v := (nI k2)) hx hb hr (fun t ht hWm => ⟨⟨(nI k2), M, rfl, ⟨(by unfold zl_pr; rw [zl_pl_some hk2 c_3 hE2, if_pos hk2]), rfl⟩, xw_end ht hW⟩, hS.F ht⟩) hS.2.2 dX1_placeOf_21

set_option maxHeartbeats 4000000 in
set_option maxRecDepth 100000 in
/-- Line.append(n), where there is room -/
theorem c_X1_append (l : Launch) {G : va_G} {g : Nat → ClassId} {t0 τ : Nat → Nat} {A : Nat → Prop} (O : xk_O τ A) (M : xm_T) (q : Nat) (hτ : τ q = 6) {L : Nat} (hL : L < 24) (hM : M q 1 = nI L) (n : Int32) : Met l yX1_append wsX1_append ({ frames := 0, cells := 0, slots := 0, locals := 0 }) (va_Pc [.ref q, .int n] (xS_t G g t0 τ A M)) (va_Qv (fun M' => M' = zl_ap q n M) (fun M' t => xw_D G g τ M' t.heap) A) 0 0 A := by
  refine Met.ofW (cc := cX1_append) (maxL := 2) (ret := none) (by decide) rfl ?_
  intro p e s m args below meth c s₁ B hml hv
  obtain ⟨rfl, hW, hK, hst, hnw⟩ := hv
  have hx := B.exec
  have hb := B.bytes
  have hr := B.returns
  have hts := atoms_spec (ws := wsX1_append) B.pre
  have hown : s.vm.findClass RX1 = some m.cls := findClass_of_methodNamed B.named
  have hlocks := B.notSynchronized
  have hS : va_S A s.heap s.heap [] := va_S.rf
  have inX1 : ∀ w ∈ u_ws RX1 TX1 2, w ∈ wsX1_append := by decide +kernel
  have hl := lv_entry ([.ref q, .int n]) (n := 2) (Nat.le_of_ble_eq_true rfl)
  rw [lg_entry_eq]
  generalize (lg_sl ([.ref q, .int n]) ++ List.replicate (2 - (lg_sl ([.ref q, .int n])).length) Slot.unset).toArray = ls at hl ⊢
  have hl : lv_has ls 2 [(0, .ref q), (1, .int n)] := hl
  refine lv_aload_n hx hb dX1_append_0 rfl (lv_at hl 0 rfl) ?_
  refine xg_get (κ := 6) (ci := 1) (C := RX1) (T := TX1) (N := 2) hx hb hts inX1 hown hK hW hτ (by decide) rfl rfl 1 (by decide) (hts (.fieldLink RX1 15 "HalfTickets$Line" "length" "I") (List.mem_of_getElem? (i := 1) (by decide +kernel))) (fun _ h9 => h9) rfl dX1_append_1 ?_
  refine lv_aload_n hx hb dX1_append_4 rfl (lv_at hl 0 rfl) ?_
  refine xg_get (κ := 6) (ci := 1) (C := RX1) (T := TX1) (N := 2) hx hb hts inX1 hown hK hW hτ (by decide) rfl rfl 0 (by decide) (hts (.fieldLink RX1 9 "HalfTickets$Line" "numbers" "[I") (List.mem_of_getElem? (i := 2) (by decide +kernel))) (fun _ h9 => h9) rfl dX1_append_5 ?_
  refine xg_alen (κ := 124) (v := nI 24) hx hb hK hW (O.l hτ) (by decide) rfl 0 rfl rfl dX1_append_8 ?_
  refine lv_icmp_ge (tgt := 32) hx hb dX1_append_9 (by decide) (fun c_1 => ?_) (fun c_1 => ?_)
  · exact absurd c_1 (by rw [hM]; exact nI_ge hL (by decide))
  · refine lv_aload_n hx hb dX1_append_12 rfl (lv_at hl 0 rfl) ?_
    refine xg_get (κ := 6) (ci := 1) (C := RX1) (T := TX1) (N := 2) hx hb hts inX1 hown hK hW hτ (by decide) rfl rfl 0 (by decide) (hts (.fieldLink RX1 9 "HalfTickets$Line" "numbers" "[I") (List.mem_of_getElem? (i := 2) (by decide +kernel))) (fun _ h9 => h9) rfl dX1_append_13 ?_
    refine lv_aload_n hx hb dX1_append_16 rfl (lv_at hl 0 rfl) ?_
    refine xg_get (κ := 6) (ci := 1) (C := RX1) (T := TX1) (N := 2) hx hb hts inX1 hown hK hW hτ (by decide) rfl rfl 1 (by decide) (hts (.fieldLink RX1 15 "HalfTickets$Line" "length" "I") (List.mem_of_getElem? (i := 1) (by decide +kernel))) (fun _ h9 => h9) rfl dX1_append_17 ?_
    refine lv_iload_n hx hb dX1_append_20 rfl (lv_at hl 1 rfl) ?_
    refine xg_iast (κ := 124) (n := 24) hx hb hK O hW hS (O.l hτ) (by decide) (fun _ => rfl) (fun _ => trivial) L hM hL (by decide) dX1_append_21 (fun H locs hW hS => ?_)
    obtain ⟨M_2, eM_2⟩ : ∃ M9, M9 = xu_p M (q + 1) L n := ⟨_, rfl⟩
    rw [← eM_2] at hW
    refine lv_aload_n hx hb dX1_append_22 rfl (lv_at hl 0 rfl) ?_
    refine lv_dup hx hb dX1_append_23 rfl ?_
    refine xg_get (κ := 6) (ci := 1) (C := RX1) (T := TX1) (N := 2) hx hb hts inX1 hown hK hW hτ (by decide) rfl rfl 1 (by decide) (hts (.fieldLink RX1 15 "HalfTickets$Line" "length" "I") (List.mem_of_getElem? (i := 1) (by decide +kernel))) (fun _ h9 => h9) rfl dX1_append_24 ?_
    refine lv_iconst (v := (nI 1)) hx hb dX1_append_27 (by decide) ?_
    refine lv_iadd hx hb dX1_append_28 ?_
    refine xg_put (κ := 6) (ci := 1) (C := RX1) (T := TX1) (N := 2) hx hb hts inX1 tyX1 tyX1_ok nmX1 hown hK O hW hS hτ (by decide) rfl rfl 1 (by decide) (v := ((M_2 q 1) + (nI 1))) rfl trivial (hts (.fieldLink RX1 15 "HalfTickets$Line" "length" "I") (List.mem_of_getElem? (i := 1) (by decide +kernel))) (fun _ h9 => h9) rfl (ty := .int) (by decide +kernel) rfl rfl (Nat.le_of_ble_eq_true rfl) dX1_append_29 (fun H locs hW hS => ?_)
    obtain ⟨M_3, eM_3⟩ : ∃ M9, M9 = xu_p M_2 q 1 ((M_2 q 1) + (nI 1)) := ⟨_, rfl⟩
    rw [← eM_3] at hW
    exact W.vret hx hb hr (fun t ht hWm => ⟨⟨M_3, rfl, (by rw [eM_3, eM_2, xu_n _ (Or.inl (by omega))]; unfold zl_ap; rw [hM, nI_clamp (by omega)]), xw_end ht hW⟩, hS.F ht⟩) hS.2.2 dX1_append_32

set_option maxHeartbeats 4000000 in
set_option maxRecDepth 100000 in
/-- Line.remove(n) -/
theorem c_X1_remove (l : Launch) {G : va_G} {g : Nat → ClassId} {t0 τ : Nat → Nat} {A : Nat → Prop} (O : xk_O τ A) (M : xm_T) (q : Nat) (hτ : τ q = 6) {L : Nat} (hL : L ≤ 24) (hM : M q 1 = nI L) (n : Int32) : Met l yX1_remove wsX1_remove ({ frames := 1, cells := 0, slots := 0, locals := 30 }) (va_Pc [.ref q, .int n] (xS_t G g t0 τ A M)) (va_Qv (fun M' => M' = zl_rv q n M) (fun M' t => xw_D G g τ M' t.heap) A) 0 0 A := by
  refine Met.ofW (cc := cX1_remove) (maxL := 4) (ret := none) (by decide) rfl ?_
  intro p e s m args below meth c s₁ B hml hv
  obtain ⟨rfl, hW, hK, hst, hnw⟩ := hv
  have hx := B.exec
  have hb := B.bytes
  have hr := B.returns
  have hts := atoms_spec (ws := wsX1_remove) B.pre
  have hown : s.vm.findClass RX1 = some m.cls := findClass_of_methodNamed B.named
  have hlocks := B.notSynchronized
  have hS : va_S A s.heap s.heap [] := va_S.rf
  have inX1 : ∀ w ∈ u_ws RX1 TX1 2, w ∈ wsX1_remove := by decide +kernel
  have hl := lv_entry ([.ref q, .int n]) (n := 4) (Nat.le_of_ble_eq_true rfl)
  rw [lg_entry_eq]
  generalize (lg_sl ([.ref q, .int n]) ++ List.replicate (4 - (lg_sl ([.ref q, .int n])).length) Slot.unset).toArray = ls at hl ⊢
  have hl : lv_has ls 4 [(0, .ref q), (1, .int n)] := hl
  refine lv_aload_n hx hb dX1_remove_0 rfl (lv_at hl 0 rfl) ?_
  refine lv_iload_n hx hb dX1_remove_1 rfl (lv_at hl 1 rfl) ?_
  refine xc_i (xr_V (As := [.int n]) (rest := []) (κ := 6) ⟨hx, hb, hml, hown, hts⟩ (c_X1_placeOf l O M q hτ hL hM n) (cwV 1 hts gX1_remove_X1_placeOf rfl rfl rfl (by decide +kernel) ⟨Nat.le_of_ble_eq_true rfl, Nat.le_of_ble_eq_true rfl⟩) hK hst hnw hS hW hτ (by decide) rfl rfl rfl hl.1 rfl (Nat.le_of_ble_eq_true rfl) dX1_remove_2 ⟨Nat.zero_le _, Nat.zero_le _⟩) hS (fun r_3 M_1 H locs hq_2 hW hS => ?_)
  obtain ⟨hq_2a, hq_2b⟩ := hq_2
  rw [hq_2b] at hW
  rw [hq_2a]
  obtain ⟨j, hj⟩ : ∃ j, zl_pl (M (q + 1)) n L = j := ⟨_, rfl⟩
  rcases Nat.lt_or_ge j L with hjL | hjL
  · have hpr : zl_pr M q n L = nI j := by unfold zl_pr; rw [hj, if_pos hjL]
    rw [hpr]
    refine lv_istore_n (lv' := [(2, .int (nI j)), (0, .ref q), (1, .int n)]) hx hb dX1_remove_5 rfl hl (by decide) rfl (fun ls hl => ?_)
    refine lv_iload_n hx hb dX1_remove_6 rfl (lv_at hl 0 rfl) ?_
    refine lv_bipush (v := (-6)) hx hb dX1_remove_7 (by decide) ?_
    refine lv_icmp_ne (tgt := 13) hx hb dX1_remove_9 (by decide) (fun c_4 => ?_) (fun c_4 => ?_)
    · refine lv_aload_n hx hb dX1_remove_13 rfl (lv_at hl 1 rfl) ?_
      refine lv_dup hx hb dX1_remove_14 rfl ?_
      refine xg_get (κ := 6) (ci := 1) (C := RX1) (T := TX1) (N := 2) hx hb hts inX1 hown hK hW hτ (by decide) rfl rfl 1 (by decide) (hts (.fieldLink RX1 15 "HalfTickets$Line" "length" "I") (List.mem_of_getElem? (i := 1) (by decide +kernel))) (fun _ h9 => h9) rfl dX1_remove_15 ?_
      refine lv_iconst (v := (nI 1)) hx hb dX1_remove_18 (by decide) ?_
      refine lv_isub hx hb dX1_remove_19 ?_
      refine xg_put (κ := 6) (ci := 1) (C := RX1) (T := TX1) (N := 2) hx hb hts inX1 tyX1 tyX1_ok nmX1 hown hK O hW hS hτ (by decide) rfl rfl 1 (by decide) (v := ((M q 1) - (nI 1))) rfl trivial (hts (.fieldLink RX1 15 "HalfTickets$Line" "length" "I") (List.mem_of_getElem? (i := 1) (by decide +kernel))) (fun _ h9 => h9) rfl (ty := .int) (by decide +kernel) rfl rfl (Nat.le_of_ble_eq_true rfl) dX1_remove_20 (fun H locs hW hS => ?_)
      obtain ⟨M_5, eM_5⟩ : ∃ M9, M9 = xu_p M q 1 ((M q 1) - (nI 1)) := ⟨_, rfl⟩
      rw [← eM_5] at hW
      refine lv_iload_n hx hb dX1_remove_23 rfl (lv_at hl 0 rfl) ?_
      refine lv_istore_n (lv' := [(3, .int (nI j)), (2, .int (nI j)), (0, .ref q), (1, .int n)]) hx hb dX1_remove_24 rfl hl (by decide) rfl (fun ls hl => ?_)
      have hlen : ∀ k, zl_sh M_5 q j k q 1 = nI (L - 1) := fun k => by rw [zl_sh_q, eM_5, xu_s, hM]; have e := nI_pred (L - 1); rw [show L - 1 + 1 = L by omega] at e; exact e
      replace hW : xw_D G g τ (zl_sh M_5 q j j) H := by rw [zl_sh_0]; exact hW
      have hj1 : j ≤ L - 1 := by omega
      refine xl_up (σ := Unit) (L - 1) (fun kk zz H locs ls => xw_D G g τ (zl_sh M_5 q j kk) H ∧ va_S A s.heap H locs ∧ lv_has ls 4 [(3, .int (nI kk)), (2, .int (nI j)), (0, .ref q), (1, .int n)] ∧ j ≤ kk) (fun z25 H locs ls hI => ?_) (fun k25 z25 H locs ls hk25 hI ih25 => ?_) (k0 := j) (z0 := ()) hj1 ⟨hW, hS, lv_sub hl [0, 1, 2, 3] rfl, (Nat.le_refl j)⟩
      · obtain ⟨hW, hS, hl, hE25⟩ := hI
        refine lv_iload_n hx hb dX1_remove_25 rfl (lv_at hl 0 rfl) ?_
        refine lv_aload_n hx hb dX1_remove_26 rfl (lv_at hl 2 rfl) ?_
        refine xg_get (κ := 6) (ci := 1) (C := RX1) (T := TX1) (N := 2) hx hb hts inX1 hown hK hW hτ (by decide) rfl rfl 1 (by decide) (hts (.fieldLink RX1 15 "HalfTickets$Line" "length" "I") (List.mem_of_getElem? (i := 1) (by decide +kernel))) (fun _ h9 => h9) rfl dX1_remove_27 ?_
        refine lv_icmp_ge (tgt := 53) hx hb dX1_remove_30 (by decide) (fun c_6 => ?_) (fun c_6 => ?_)
        · exact W.vret hx hb hr (fun t ht hWm => ⟨⟨(zl_sh M_5 q j (L - 1)), rfl, (by rw [eM_5]; exact (zl_rv_sh hM hL hj hjL).symm), xw_end ht hW⟩, hS.F ht⟩) hS.2.2 dX1_remove_53
        · exact absurd (by rw [hlen]; exact nI_le (Nat.le_refl _) (by omega)) c_6
      · obtain ⟨hW, hS, hl, hE25⟩ := hI
        refine lv_iload_n hx hb dX1_remove_25 rfl (lv_at hl 0 rfl) ?_
        refine lv_aload_n hx hb dX1_remove_26 rfl (lv_at hl 2 rfl) ?_
        refine xg_get (κ := 6) (ci := 1) (C := RX1) (T := TX1) (N := 2) hx hb hts inX1 hown hK hW hτ (by decide) rfl rfl 1 (by decide) (hts (.fieldLink RX1 15 "HalfTickets$Line" "length" "I") (List.mem_of_getElem? (i := 1) (by decide +kernel))) (fun _ h9 => h9) rfl dX1_remove_27 ?_
        refine lv_icmp_ge (tgt := 53) hx hb dX1_remove_30 (by decide) (fun c_7 => ?_) (fun c_7 => ?_)
        · exact absurd c_7 (by rw [hlen]; exact nI_ge hk25 (by omega))
        · refine lv_aload_n hx hb dX1_remove_33 rfl (lv_at hl 2 rfl) ?_
          refine xg_get (κ := 6) (ci := 1) (C := RX1) (T := TX1) (N := 2) hx hb hts inX1 hown hK hW hτ (by decide) rfl rfl 0 (by decide) (hts (.fieldLink RX1 9 "HalfTickets$Line" "numbers" "[I") (List.mem_of_getElem? (i := 2) (by decide +kernel))) (fun _ h9 => h9) rfl dX1_remove_34 ?_
          refine lv_iload_n hx hb dX1_remove_37 rfl (lv_at hl 0 rfl) ?_
          refine lv_aload_n hx hb dX1_remove_38 rfl (lv_at hl 2 rfl) ?_
          refine xg_get (κ := 6) (ci := 1) (C := RX1) (T := TX1) (N := 2) hx hb hts inX1 hown hK hW hτ (by decide) rfl rfl 0 (by decide) (hts (.fieldLink RX1 9 "HalfTickets$Line" "numbers" "[I") (List.mem_of_getElem? (i := 2) (by decide +kernel))) (fun _ h9 => h9) rfl dX1_remove_39 ?_
          refine lv_iload_n hx hb dX1_remove_42 rfl (lv_at hl 0 rfl) ?_
          refine lv_iconst (v := (nI 1)) hx hb dX1_remove_43 (by decide) ?_
          refine lv_iadd hx hb dX1_remove_44 ?_
          refine xg_iald (κ := 124) (n := 24) hx hb hK hW (O.l hτ) (by decide) rfl (k25 + 1) (nI_1 k25) (by omega) (by decide) dX1_remove_45 ?_
          refine xg_iast (κ := 124) (n := 24) hx hb hK O hW hS (O.l hτ) (by decide) (fun _ => rfl) (fun _ => trivial) k25 rfl (by omega) (by decide) dX1_remove_46 (fun H locs hW hS => ?_)
          obtain ⟨M_8, eM_8⟩ : ∃ M9, M9 = xu_p (zl_sh M_5 q j k25) (q + 1) k25 ((zl_sh M_5 q j k25) (q + 1) (k25 + 1)) := ⟨_, rfl⟩
          rw [← eM_8] at hW
          refine lv_iinc (v := (nI (k25 + 1))) (lv' := [(3, .int (nI (k25 + 1))), (2, .int (nI j)), (0, .ref q), (1, .int n)]) hx hb dX1_remove_47 hl (k := 0) rfl ((nI_1 k25)) (by decide) rfl (fun ls hl => ?_)
          refine lv_goto (tgt := 25) hx hb dX1_remove_50 (by decide) ?_
          rw [eM_8, zl_sh_1 hE25] at hW
          exact ih25 () _ _ _ ⟨hW, hS, lv_sub hl [0, 1, 2, 3] rfl, (by omega)⟩
    · exact absurd c_4 (zn_6 (by omega))
  · have hpr : zl_pr M q n L = -6 := by unfold zl_pr; rw [hj, if_neg (by omega)]
    rw [hpr]
    refine lv_istore_n (lv' := [(2, .int (-6)), (0, .ref q), (1, .int n)]) hx hb dX1_remove_5 rfl hl (by decide) rfl (fun ls hl => ?_)
    refine lv_iload_n hx hb dX1_remove_6 rfl (lv_at hl 0 rfl) ?_
    refine lv_bipush (v := (-6)) hx hb dX1_remove_7 (by decide) ?_
    refine lv_icmp_ne (tgt := 13) hx hb dX1_remove_9 (by decide) (fun c_9 => ?_) (fun c_9 => ?_)
    · exact absurd rfl c_9
    · exact W.vret hx hb hr (fun t ht hWm => ⟨⟨M, rfl, (zl_rv_no hM hL hj hjL).symm, xw_end ht hW⟩, hS.F ht⟩) hS.2.2 dX1_remove_12

set_option maxHeartbeats 4000000 in
set_option maxRecDepth 100000 in
/-- Person.addToErrand(v), where there is room -/
theorem c_X4_addToErrand (l : Launch) {G : va_G} {g : Nat → ClassId} {t0 τ : Nat → Nat} {A : Nat → Prop} (O : xk_O τ A) (M : xm_T) (a : Nat) (hτ : τ a = 8) (v : Int32) {mm : Nat} (hmm : M a 2 = nI mm) (hm8 : mm < 8) : Met l yX4_addToErrand wsX4_addToErrand ({ frames := 0, cells := 0, slots := 0, locals := 0 }) (va_Pc [.ref a, .int v] (xS_t G g t0 τ A M)) (va_Qv (fun M' => M' = xu_p (xu_p M (a + 1) mm v) a 2 (nI (mm + 1))) (fun M' t => xw_D G g τ M' t.heap) A) 0 0 A := by
  refine Met.ofW (cc := cX4_addToErrand) (maxL := 2) (ret := none) (by decide) rfl ?_
  intro p e s m args below meth c s₁ B hml hv
  obtain ⟨rfl, hW, hK, hst, hnw⟩ := hv
  have hx := B.exec
  have hb := B.bytes
  have hr := B.returns
  have hts := atoms_spec (ws := wsX4_addToErrand) B.pre
  have hown : s.vm.findClass RX4 = some m.cls := findClass_of_methodNamed B.named
  have hlocks := B.notSynchronized
  have hS : va_S A s.heap s.heap [] := va_S.rf
  have inX4 : ∀ w ∈ u_ws RX4 TX4 12, w ∈ wsX4_addToErrand := by decide +kernel
  have hl := lv_entry ([.ref a, .int v]) (n := 2) (Nat.le_of_ble_eq_true rfl)
  rw [lg_entry_eq]
  generalize (lg_sl ([.ref a, .int v]) ++ List.replicate (2 - (lg_sl ([.ref a, .int v])).length) Slot.unset).toArray = ls at hl ⊢
  have hl : lv_has ls 2 [(0, .ref a), (1, .int v)] := hl
  refine lv_aload_n hx hb dX4_addToErrand_0 rfl (lv_at hl 0 rfl) ?_
  refine xg_get (κ := 8) (ci := 4) (C := RX4) (T := TX4) (N := 12) hx hb hts inX4 hown hK hW hτ (by decide) rfl rfl 2 (by decide) (hts (.fieldLink RX4 31 "HalfTickets$Person" "errandLength" "I") (List.mem_of_getElem? (i := 1) (by decide +kernel))) (fun _ h9 => h9) rfl dX4_addToErrand_1 ?_
  refine lv_aload_n hx hb dX4_addToErrand_4 rfl (lv_at hl 0 rfl) ?_
  refine xg_get (κ := 8) (ci := 4) (C := RX4) (T := TX4) (N := 12) hx hb hts inX4 hown hK hW hτ (by decide) rfl rfl 1 (by decide) (hts (.fieldLink RX4 9 "HalfTickets$Person" "errand" "[I") (List.mem_of_getElem? (i := 2) (by decide +kernel))) (fun _ h9 => h9) rfl dX4_addToErrand_5 ?_
  refine xg_alen (κ := 108) (v := nI 8) hx hb hK hW (O.e hτ) (by decide) rfl 0 rfl rfl dX4_addToErrand_8 ?_
  refine lv_icmp_ge (tgt := 32) hx hb dX4_addToErrand_9 (by decide) (fun c_1 => ?_) (fun c_1 => ?_)
  · exact absurd c_1 (by rw [hmm]; exact nI_ge hm8 (by decide))
  · refine lv_aload_n hx hb dX4_addToErrand_12 rfl (lv_at hl 0 rfl) ?_
    refine xg_get (κ := 8) (ci := 4) (C := RX4) (T := TX4) (N := 12) hx hb hts inX4 hown hK hW hτ (by decide) rfl rfl 1 (by decide) (hts (.fieldLink RX4 9 "HalfTickets$Person" "errand" "[I") (List.mem_of_getElem? (i := 2) (by decide +kernel))) (fun _ h9 => h9) rfl dX4_addToErrand_13 ?_
    refine lv_aload_n hx hb dX4_addToErrand_16 rfl (lv_at hl 0 rfl) ?_
    refine xg_get (κ := 8) (ci := 4) (C := RX4) (T := TX4) (N := 12) hx hb hts inX4 hown hK hW hτ (by decide) rfl rfl 2 (by decide) (hts (.fieldLink RX4 31 "HalfTickets$Person" "errandLength" "I") (List.mem_of_getElem? (i := 1) (by decide +kernel))) (fun _ h9 => h9) rfl dX4_addToErrand_17 ?_
    refine lv_iload_n hx hb dX4_addToErrand_20 rfl (lv_at hl 1 rfl) ?_
    refine xg_iast (κ := 108) (n := 8) hx hb hK O hW hS (O.e hτ) (by decide) (fun _ => rfl) (fun _ => trivial) mm hmm hm8 (by decide) dX4_addToErrand_21 (fun H locs hW hS => ?_)
    obtain ⟨M_2, eM_2⟩ : ∃ M9, M9 = xu_p M (a + 1) mm v := ⟨_, rfl⟩
    rw [← eM_2] at hW
    refine lv_aload_n hx hb dX4_addToErrand_22 rfl (lv_at hl 0 rfl) ?_
    refine lv_dup hx hb dX4_addToErrand_23 rfl ?_
    refine xg_get (κ := 8) (ci := 4) (C := RX4) (T := TX4) (N := 12) hx hb hts inX4 hown hK hW hτ (by decide) rfl rfl 2 (by decide) (hts (.fieldLink RX4 31 "HalfTickets$Person" "errandLength" "I") (List.mem_of_getElem? (i := 1) (by decide +kernel))) (fun _ h9 => h9) rfl dX4_addToErrand_24 ?_
    refine lv_iconst (v := (nI 1)) hx hb dX4_addToErrand_27 (by decide) ?_
    refine lv_iadd hx hb dX4_addToErrand_28 ?_
    refine xg_put (κ := 8) (ci := 4) (C := RX4) (T := TX4) (N := 12) hx hb hts inX4 tyX4 tyX4_ok nmX4 hown hK O hW hS hτ (by decide) rfl rfl 2 (by decide) (v := ((M_2 a 2) + (nI 1))) rfl (xw_okp hW hτ (by decide)) (hts (.fieldLink RX4 31 "HalfTickets$Person" "errandLength" "I") (List.mem_of_getElem? (i := 1) (by decide +kernel))) (fun _ h9 => h9) rfl (ty := .int) (by decide +kernel) rfl rfl (Nat.le_of_ble_eq_true rfl) dX4_addToErrand_29 (fun H locs hW hS => ?_)
    obtain ⟨M_3, eM_3⟩ : ∃ M9, M9 = xu_p M_2 a 2 ((M_2 a 2) + (nI 1)) := ⟨_, rfl⟩
    rw [← eM_3] at hW
    exact W.vret hx hb hr (fun t ht hWm => ⟨⟨M_3, rfl, (by rw [eM_3, eM_2, xu_n _ (Or.inl (by omega)), hmm, show nI mm + nI 1 = nI (mm + 1) from nI_add mm 1]), xw_end ht hW⟩, hS.F ht⟩) hS.2.2 dX4_addToErrand_32

set_option maxHeartbeats 4000000 in
set_option maxRecDepth 100000 in
/-- Person.standsAt() -/
theorem c_X4_standsAt (l : Launch) {G : va_G} {g : Nat → ClassId} {t0 τ : Nat → Nat} {A : Nat → Prop} (O : xk_O τ A) (M : xm_T) (a : Nat) (hτ : τ a = 8) {tt mm : Nat} (htt : M a 4 = nI tt) (hmm : M a 2 = nI mm) (hm8 : mm ≤ 8) (ht8 : tt < 2 ^ 31) : Met l yX4_standsAt wsX4_standsAt ({ frames := 0, cells := 0, slots := 0, locals := 0 }) (va_Pc [.ref a] (xS_t G g t0 τ A M)) (va_Qi (fun r M' => r = zs_at M a ∧ M' = M) (fun M' t => xw_D G g τ M' t.heap) A) 0 0 A := by
  refine Met.ofW (cc := cX4_standsAt) (maxL := 2) (ret := (some .int)) (by decide) rfl ?_
  intro p e s m args below meth c s₁ B hml hv
  obtain ⟨rfl, hW, hK, hst, hnw⟩ := hv
  have hx := B.exec
  have hb := B.bytes
  have hr := B.returns
  have hts := atoms_spec (ws := wsX4_standsAt) B.pre
  have hown : s.vm.findClass RX4 = some m.cls := findClass_of_methodNamed B.named
  have hlocks := B.notSynchronized
  have hS : va_S A s.heap s.heap [] := va_S.rf
  have inX4 : ∀ w ∈ u_ws RX4 TX4 12, w ∈ wsX4_standsAt := by decide +kernel
  have hl := lv_entry ([.ref a]) (n := 2) (Nat.le_of_ble_eq_true rfl)
  rw [lg_entry_eq]
  generalize (lg_sl ([.ref a]) ++ List.replicate (2 - (lg_sl ([.ref a])).length) Slot.unset).toArray = ls at hl ⊢
  have hl : lv_has ls 2 [(0, .ref a)] := hl
  refine lv_aload_n hx hb dX4_standsAt_0 rfl (lv_at hl 0 rfl) ?_
  refine xg_get (κ := 8) (ci := 4) (C := RX4) (T := TX4) (N := 12) hx hb hts inX4 hown hK hW hτ (by decide) rfl rfl 3 (by decide) (hts (.fieldLink RX4 15 "HalfTickets$Person" "where" "I") (List.mem_of_getElem? (i := 1) (by decide +kernel))) (fun _ h9 => h9) rfl dX4_standsAt_1 ?_
  refine lv_if_eq (tgt := 15) hx hb dX4_standsAt_4 (by decide) (fun c_1 => ?_) (fun c_1 => ?_)
  · refine lv_iconst (v := (nI 1)) hx hb dX4_standsAt_15 (by decide) ?_
    refine lv_goto (tgt := 20) hx hb dX4_standsAt_16 (by decide) ?_
    refine lv_istore_n (lv' := [(1, .int (nI 1)), (0, .ref a)]) hx hb dX4_standsAt_20 rfl hl (by decide) rfl (fun ls hl => ?_)
    refine lv_iload_n hx hb dX4_standsAt_21 rfl (lv_at hl 0 rfl) ?_
    refine lv_if_eq (tgt := 48) hx hb dX4_standsAt_22 (by decide) (fun c_2 => ?_) (fun c_2 => ?_)
    · exact absurd c_2 (by decide)
    · refine lv_aload_n hx hb dX4_standsAt_25 rfl (lv_at hl 1 rfl) ?_
      refine xg_get (κ := 8) (ci := 4) (C := RX4) (T := TX4) (N := 12) hx hb hts inX4 hown hK hW hτ (by decide) rfl rfl 4 (by decide) (hts (.fieldLink RX4 34 "HalfTickets$Person" "through" "I") (List.mem_of_getElem? (i := 2) (by decide +kernel))) (fun _ h9 => h9) rfl dX4_standsAt_26 ?_
      refine lv_aload_n hx hb dX4_standsAt_29 rfl (lv_at hl 1 rfl) ?_
      refine xg_get (κ := 8) (ci := 4) (C := RX4) (T := TX4) (N := 12) hx hb hts inX4 hown hK hW hτ (by decide) rfl rfl 2 (by decide) (hts (.fieldLink RX4 31 "HalfTickets$Person" "errandLength" "I") (List.mem_of_getElem? (i := 3) (by decide +kernel))) (fun _ h9 => h9) rfl dX4_standsAt_30 ?_
      refine lv_icmp_ge (tgt := 48) hx hb dX4_standsAt_33 (by decide) (fun c_3 => ?_) (fun c_3 => ?_)
      · refine lv_bipush (v := (-6)) hx hb dX4_standsAt_48 (by decide) ?_
        exact W.iret (v := (-6)) hx hb hr (fun t ht hWm => ⟨⟨(-6), M, rfl, ⟨(by unfold zs_at; rw [if_neg (fun z => absurd z.2 (Int32.not_lt.mpr c_3))]), rfl⟩, xw_end ht hW⟩, hS.F ht⟩) hS.2.2 dX4_standsAt_50
      · refine lv_aload_n hx hb dX4_standsAt_36 rfl (lv_at hl 1 rfl) ?_
        refine xg_get (κ := 8) (ci := 4) (C := RX4) (T := TX4) (N := 12) hx hb hts inX4 hown hK hW hτ (by decide) rfl rfl 1 (by decide) (hts (.fieldLink RX4 9 "HalfTickets$Person" "errand" "[I") (List.mem_of_getElem? (i := 4) (by decide +kernel))) (fun _ h9 => h9) rfl dX4_standsAt_37 ?_
        refine lv_aload_n hx hb dX4_standsAt_40 rfl (lv_at hl 1 rfl) ?_
        refine xg_get (κ := 8) (ci := 4) (C := RX4) (T := TX4) (N := 12) hx hb hts inX4 hown hK hW hτ (by decide) rfl rfl 4 (by decide) (hts (.fieldLink RX4 34 "HalfTickets$Person" "through" "I") (List.mem_of_getElem? (i := 2) (by decide +kernel))) (fun _ h9 => h9) rfl dX4_standsAt_41 ?_
        refine xg_iald (κ := 108) (n := 8) hx hb hK hW (O.e hτ) (by decide) rfl tt htt (by have e := c_3; rw [htt, hmm] at e; have := (nI_ltI ht8 (by omega)).mp (Int32.not_le.mp e); omega) (by decide) dX4_standsAt_44 ?_
        refine lv_goto (tgt := 50) hx hb dX4_standsAt_45 (by decide) ?_
        exact W.iret (v := (M (a + 1) tt)) hx hb hr (fun t ht hWm => ⟨⟨(M (a + 1) tt), M, rfl, ⟨(by unfold zs_at; rw [if_pos ⟨Or.inl c_1, Int32.not_le.mp c_3⟩, htt, nI_clamp ht8]), rfl⟩, xw_end ht hW⟩, hS.F ht⟩) hS.2.2 dX4_standsAt_50
  · refine lv_aload_n hx hb dX4_standsAt_7 rfl (lv_at hl 0 rfl) ?_
    refine xg_get (κ := 8) (ci := 4) (C := RX4) (T := TX4) (N := 12) hx hb hts inX4 hown hK hW hτ (by decide) rfl rfl 3 (by decide) (hts (.fieldLink RX4 15 "HalfTickets$Person" "where" "I") (List.mem_of_getElem? (i := 1) (by decide +kernel))) (fun _ h9 => h9) rfl dX4_standsAt_8 ?_
    refine lv_iconst (v := (nI 1)) hx hb dX4_standsAt_11 (by decide) ?_
    refine lv_icmp_ne (tgt := 19) hx hb dX4_standsAt_12 (by decide) (fun c_4 => ?_) (fun c_4 => ?_)
    · refine lv_iconst (v := (nI 0)) hx hb dX4_standsAt_19 (by decide) ?_
      refine lv_istore_n (lv' := [(1, .int (nI 0)), (0, .ref a)]) hx hb dX4_standsAt_20 rfl hl (by decide) rfl (fun ls hl => ?_)
      refine lv_iload_n hx hb dX4_standsAt_21 rfl (lv_at hl 0 rfl) ?_
      refine lv_if_eq (tgt := 48) hx hb dX4_standsAt_22 (by decide) (fun c_5 => ?_) (fun c_5 => ?_)
      · refine lv_bipush (v := (-6)) hx hb dX4_standsAt_48 (by decide) ?_
        exact W.iret (v := (-6)) hx hb hr (fun t ht hWm => ⟨⟨(-6), M, rfl, ⟨(by unfold zs_at; rw [if_neg (fun z => z.1.elim c_1 c_4)]), rfl⟩, xw_end ht hW⟩, hS.F ht⟩) hS.2.2 dX4_standsAt_50
      · exact absurd rfl c_5
    · refine lv_iconst (v := (nI 1)) hx hb dX4_standsAt_15 (by decide) ?_
      refine lv_goto (tgt := 20) hx hb dX4_standsAt_16 (by decide) ?_
      refine lv_istore_n (lv' := [(1, .int (nI 1)), (0, .ref a)]) hx hb dX4_standsAt_20 rfl hl (by decide) rfl (fun ls hl => ?_)
      refine lv_iload_n hx hb dX4_standsAt_21 rfl (lv_at hl 0 rfl) ?_
      refine lv_if_eq (tgt := 48) hx hb dX4_standsAt_22 (by decide) (fun c_6 => ?_) (fun c_6 => ?_)
      · exact absurd c_6 (by decide)
      · refine lv_aload_n hx hb dX4_standsAt_25 rfl (lv_at hl 1 rfl) ?_
        refine xg_get (κ := 8) (ci := 4) (C := RX4) (T := TX4) (N := 12) hx hb hts inX4 hown hK hW hτ (by decide) rfl rfl 4 (by decide) (hts (.fieldLink RX4 34 "HalfTickets$Person" "through" "I") (List.mem_of_getElem? (i := 2) (by decide +kernel))) (fun _ h9 => h9) rfl dX4_standsAt_26 ?_
        refine lv_aload_n hx hb dX4_standsAt_29 rfl (lv_at hl 1 rfl) ?_
        refine xg_get (κ := 8) (ci := 4) (C := RX4) (T := TX4) (N := 12) hx hb hts inX4 hown hK hW hτ (by decide) rfl rfl 2 (by decide) (hts (.fieldLink RX4 31 "HalfTickets$Person" "errandLength" "I") (List.mem_of_getElem? (i := 3) (by decide +kernel))) (fun _ h9 => h9) rfl dX4_standsAt_30 ?_
        refine lv_icmp_ge (tgt := 48) hx hb dX4_standsAt_33 (by decide) (fun c_7 => ?_) (fun c_7 => ?_)
        · refine lv_bipush (v := (-6)) hx hb dX4_standsAt_48 (by decide) ?_
          exact W.iret (v := (-6)) hx hb hr (fun t ht hWm => ⟨⟨(-6), M, rfl, ⟨(by unfold zs_at; rw [if_neg (fun z => absurd z.2 (Int32.not_lt.mpr c_7))]), rfl⟩, xw_end ht hW⟩, hS.F ht⟩) hS.2.2 dX4_standsAt_50
        · refine lv_aload_n hx hb dX4_standsAt_36 rfl (lv_at hl 1 rfl) ?_
          refine xg_get (κ := 8) (ci := 4) (C := RX4) (T := TX4) (N := 12) hx hb hts inX4 hown hK hW hτ (by decide) rfl rfl 1 (by decide) (hts (.fieldLink RX4 9 "HalfTickets$Person" "errand" "[I") (List.mem_of_getElem? (i := 4) (by decide +kernel))) (fun _ h9 => h9) rfl dX4_standsAt_37 ?_
          refine lv_aload_n hx hb dX4_standsAt_40 rfl (lv_at hl 1 rfl) ?_
          refine xg_get (κ := 8) (ci := 4) (C := RX4) (T := TX4) (N := 12) hx hb hts inX4 hown hK hW hτ (by decide) rfl rfl 4 (by decide) (hts (.fieldLink RX4 34 "HalfTickets$Person" "through" "I") (List.mem_of_getElem? (i := 2) (by decide +kernel))) (fun _ h9 => h9) rfl dX4_standsAt_41 ?_
          refine xg_iald (κ := 108) (n := 8) hx hb hK hW (O.e hτ) (by decide) rfl tt htt (by have e := c_7; rw [htt, hmm] at e; have := (nI_ltI ht8 (by omega)).mp (Int32.not_le.mp e); omega) (by decide) dX4_standsAt_44 ?_
          refine lv_goto (tgt := 50) hx hb dX4_standsAt_45 (by decide) ?_
          exact W.iret (v := (M (a + 1) tt)) hx hb hr (fun t ht hWm => ⟨⟨(M (a + 1) tt), M, rfl, ⟨(by unfold zs_at; rw [if_pos ⟨Or.inr c_4, Int32.not_le.mp c_7⟩, htt, nI_clamp ht8]), rfl⟩, xw_end ht hW⟩, hS.F ht⟩) hS.2.2 dX4_standsAt_50
