/-- the object as it is made: what one call on it asks for -/
def xp_N (M : xm_T) (b : Nat) : Prop := ∀ k, k < 24 → M (b + 1 + 2 * k + 34) 0 = nI k ∧ M (b + 83 + 2 * k + 34) 0 = nI k ∧ (∀ i, i < 6 → M (b + 165 + 82 * i + 2 + 2 * k + 34) 0 = nI k) ∧ ∀ i, i < 2 → M (b + 82 * i + 660 + 2 * k + 34) 0 = nI k
def xp_F (M : xm_T) (b : Nat) : Prop := xp_N M b ∧ xe_E M (b + 1) ∧ (M (b + 1) 3 = nI 0 ∧ M (b + 1) 4 = nI 0 ∧ M (b + 1) 5 = nI 0 ∧ M (b + 1) 6 = nI 0) ∧ (∀ k, k < 3 → M (b + 2) k = xs_0 k) ∧
  (∀ w, w < 6 → M (b + 1 + 5 * w + 4) 0 = nI 1 ∧ M (b + 1 + 5 * w + 4) 1 = nI 1 ∧ M (b + 1 + 5 * w + 4) 2 = nI 8 ∧ M (b + 1 + 5 * w + 4) 3 = nI 0 ∧ M (b + 1 + 5 * w + 4) 4 = nI 0) ∧
  (∀ k, k < 24 → M (b + 1 + 2 * k + 34) 5 = nI 0 ∧ M (b + 1 + 2 * k + 34) 7 = nI 0 ∧ M (b + 1 + 2 * k + 34) 9 = nI 0) ∧
  (M (b + 165) 1 = nI 0 ∧ M (b + 165) 2 = nI 0) ∧ (∀ i, i < 2 → M (b + 824) i = nI 0) ∧ M (b + 825) 1 = nI 0
theorem xp_H {M : xm_T} {b : Nat} (h : xp_N M b) : xn_H M (b + 165) (b + 1) := fun i hi k hk => by rw [(h k hk).2.2.1 i hi, (h k hk).1]
theorem xp_T {M : xm_T} {b : Nat} (h : xp_N M b) : ∀ k, k < 24 → M (b + 83 + 2 * k + 34) 0 = M (b + 1 + 2 * k + 34) 0 := fun k hk => by rw [(h k hk).2.1, (h k hk).1]
theorem xe_cp {M : xm_T} {a o : Nat} (hd : a + 82 ≤ o ∨ o + 82 ≤ a) (h : xe_E M o) : xe_E (xf_cp M a o 82) a := by
  refine ⟨fun w hw => ⟨?_, ?_⟩, fun k hk => ?_⟩
  · rw [xf_in (by omega), show a + 5 * w + 5 - a + o = o + 5 * w + 5 by omega]; exact (h.1 w hw).1
  · rw [xf_in (by omega), show a + 5 * w + 7 - a + o = o + 5 * w + 7 by omega]; exact (h.1 w hw).2
  · rw [xf_in (by omega), show a + 2 * k + 34 - a + o = o + 2 * k + 34 by omega]; exact h.2 k hk
theorem xe_mv {M M' : xm_T} {a : Nat} (hM : ∀ x, a ≤ x → x < a + 82 → M' x = M x) (h : xe_E M a) : xe_E M' a := by
  refine ⟨fun w hw => ⟨?_, ?_⟩, fun k hk => ?_⟩
  · rw [hM _ (by omega) (by omega)]; exact (h.1 w hw).1
  · rw [hM _ (by omega) (by omega)]; exact (h.1 w hw).2
  · rw [hM _ (by omega) (by omega)]; exact h.2 k hk
theorem xf_sum_0 {f : Nat → Int32} : ∀ {n : Nat}, (∀ k, k < n → f k = nI 0) → xf_sum f n = nI 0
  | 0, _ => rfl
  | n + 1, h => by
    show xf_sum f n + f n = nI 0
    rw [xf_sum_0 (fun k hk => h k (by omega)), h n (by omega)]
    rfl
theorem xf_sum_c {f f' : Nat → Int32} : ∀ {n : Nat}, (∀ k, k < n → f k = f' k) → xf_sum f n = xf_sum f' n
  | 0, _ => rfl
  | n + 1, h => by
    show xf_sum f n + f n = xf_sum f' n + f' n
    rw [xf_sum_c (fun k hk => h k (by omega)), h n (by omega)]
theorem xe_pw {M : xm_T} {a : Nat} {v : Int32} (h : xe_E M a) (hv : ¬ nI 4 = v) : xf_sum (fun k => if M (a + 2 * k + 34) 3 = v then nI 1 else nI 0) 24 = nI 0 := xf_sum_0 (fun k hk => by rw [h.2 k hk, if_neg hv])
theorem xf_per_0 {M : xm_T} {a : Nat} (h : M a 3 = nI 0) (i : Int32) : xf_per M a i = none := by
  unfold xf_per
  by_cases h1 : i < 0
  · rw [if_pos h1]
  · rw [if_neg h1, h, if_pos (by rw [nI_0]; exact Int32.not_lt.mp h1)]
/-- the answers of one call on a new object -/
def xa_set (s v : Int32) : Int32 := if s < 0 then -2 else if s < nI 3 then (if v < xs_1 s.toNatClampNeg then -2 else if v ≤ xs_2 s.toNatClampNeg then xs_0 s.toNatClampNeg else -2) else -2
def xa_win (i v : Int32) : Int32 := if i < 0 ∨ nI 6 ≤ i then -1 else if v = nI 1 then -5 else nI 5
def xa_clk (i v : Int32) : Int32 := if i < 0 ∨ nI 6 ≤ i then -1 else if v < 0 then -2 else if v ≤ nI 3 then nI 1 else -2
def xa_bri (i : Int32) : Int32 := if i < 0 ∨ nI 6 ≤ i then -1 else nI 0
def xa_pas (t : Int32) : Int32 := if t < nI 1 then -2 else if t ≤ nI 99 then nI 0 else -2
def xa_wof (i v : Int32) : Int32 := if i < 0 ∨ nI 6 ≤ i then -1 else if v < 0 then -2 else if v ≤ nI 6 then (if v = nI 0 then nI 1 else if v = nI 1 then nI 1 else if v = nI 2 then nI 8 else nI 0) else -2
def xa_cnt (v : Int32) : Int32 := if v < 0 ∨ nI 17 ≤ v then -2 else if v = nI 0 then nI 2 else if v = nI 1 then nI 8 else if v = nI 9 then nI 48 else nI 0
def xa_ifp (t v : Int32) : Int32 := if t < nI 1 then -2 else if t ≤ nI 300 then (if v < 0 then -2 else if v ≤ nI 3 then nI 0 else -2) else -2
def xa_sav (i : Int32) : Int32 := if i < 0 then -2 else if i < nI 2 then nI 0 else -2
def xa_res (i : Int32) : Int32 := if i < 0 then -2 else if i < nI 2 then -5 else -2
theorem xi_hi {x : Int32} {n : Nat} (h : nI n ≤ x) (hn : n < 2 ^ 31) : ¬ x < 0 := fun q => by
  have h1 := Int32.le_iff_toInt_le.mp h
  have h2 := Int32.lt_iff_toInt_lt.mp q
  rw [nI_toInt hn] at h1
  have h3 : (0 : Int32).toInt = 0 := rfl
  omega
theorem xi_ix {i : Int32} {n : Nat} (h : ¬ i < 0) (h2 : i < nI n) (hn : n < 2 ^ 31) : ∃ k, k < n ∧ i = nI k := ⟨i.toNatClampNeg, xi_lt h (Int32.not_le.mpr h2) hn, xi_nI h⟩
theorem xi_ix2 {i : Int32} {n : Nat} (h : ¬ i < 0) (h2 : i ≤ nI n) (hn : n < 2 ^ 31) : ∃ k, k < n + 1 ∧ i = nI k := by
  obtain ⟨j, hj, e⟩ := nI_of h
  subst e
  exact ⟨j, by have := (nI_leI hj hn).mp h2; omega, rfl⟩
theorem xi_1 {i : Int32} (h : ¬ i < nI 1) : ¬ i < 0 := fun q => h (Int32.lt_trans q (by decide))
theorem xi_tlo {x : Int32} {lo hi : Int} (h : x < 0) (h0 : lo = 0) : x.toInt < lo ∨ hi < x.toInt := Or.inl (by
  have h2 := Int32.lt_iff_toInt_lt.mp h
  have h3 : (0 : Int32).toInt = 0 := rfl
  omega)
theorem xi_thi {x : Int32} {lo hi : Int} {n : Nat} (h : nI n ≤ x) (hn : n < 2 ^ 31) (h0 : hi + 1 = n) : x.toInt < lo ∨ hi < x.toInt := Or.inr (by
  have h1 := Int32.le_iff_toInt_le.mp h
  rw [nI_toInt hn] at h1
  omega)

set_option maxHeartbeats 4000000 in
set_option maxRecDepth 100000 in
/-- set on a new object -/
theorem cp_set (l : Launch) {G : va_G} {g : Nat → ClassId} {t0 τ : Nat → Nat} {A : Nat → Prop} (O : xk_O τ A) (M : xm_T) (b : Nat) (hτ : τ b = 16) (hF : xp_F M b) (i v : Int32) : Met l yX6_set wsX6_set ({ frames := 5, cells := 0, slots := 0, locals := 160 }) (va_Pc [.ref b, .int i, .int v] (xS_t G g t0 τ A M)) (va_Qi (fun r M' => r = xa_set i v) (fun M' t => xw_D G g τ M' t.heap) A) 0 0 A := by
  refine Met.ofW (cc := cX6_set) (maxL := 4) (ret := (some .int)) (by decide) rfl ?_
  intro p e s m args below meth c s₁ B hml hv
  obtain ⟨rfl, hW, hK, hst, hnw⟩ := hv
  have hx := B.exec
  have hb := B.bytes
  have hr := B.returns
  have hts := atoms_spec (ws := wsX6_set) B.pre
  have hown : s.vm.findClass RX6 = some m.cls := findClass_of_methodNamed B.named
  have hlocks := B.notSynchronized
  have hS : va_S A s.heap s.heap [] := va_S.rf
  have inX2 : ∀ w ∈ u_ws RX2 TX2 7, w ∈ wsX6_set := by decide +kernel
  have inX6 : ∀ w ∈ u_ws RX6 TX6 6, w ∈ wsX6_set := by decide +kernel
  have hl := lv_entry ([.ref b, .int i, .int v]) (n := 4) (Nat.le_of_ble_eq_true rfl)
  rw [lg_entry_eq]
  generalize (lg_sl ([.ref b, .int i, .int v]) ++ List.replicate (4 - (lg_sl ([.ref b, .int i, .int v])).length) Slot.unset).toArray = ls at hl ⊢
  have hl : lv_has ls 4 [(0, .ref b), (1, .int i), (2, .int v)] := hl
  refine lv_iload_n hx hb dX6_set_0 rfl (lv_at hl 1 rfl) ?_
  refine lv_if_lt (tgt := 12) hx hb dX6_set_1 (by decide) (fun c_1 => ?_) (fun c_1 => ?_)
  · have hres : (-2 : Int32) = xa_set i v := by unfold xa_set; rw [if_pos c_1]
    refine lv_bipush (v := (-2)) hx hb dX6_set_12 (by decide) ?_
    exact W.iret (v := (-2)) hx hb hr (fun t ht hWm => ⟨⟨(-2), M, rfl, hres, xw_end ht hW⟩, hS.F ht⟩) hS.2.2 dX6_set_14
  · refine lv_iload_n hx hb dX6_set_4 rfl (lv_at hl 1 rfl) ?_
    refine va_gets hx hb hst.1.1 hS hown (hts (.fieldLink RX6 41 "HalfTickets" "FIRST_SETTING" "[I") (List.mem_of_getElem? (i := 1) (by decide +kernel))) (fun _ h9 => h9) dX6_set_5 ?_
    refine va_tlen hx hb hst.1.2 hS (v := nI 3) rfl dX6_set_8 ?_
    refine lv_icmp_lt (tgt := 15) hx hb dX6_set_9 (by decide) (fun c_2 => ?_) (fun c_2 => ?_)
    · obtain ⟨k, hk, rfl⟩ := xi_ix c_1 c_2 (by decide)
      have hcl : (nI k).toNatClampNeg = k := nI_clamp (by omega)
      refine lv_iload_n hx hb dX6_set_15 rfl (lv_at hl 2 rfl) ?_
      refine va_gets hx hb hst.2.1.1 hS hown (hts (.fieldLink RX6 45 "HalfTickets" "LOWEST_SETTING" "[I") (List.mem_of_getElem? (i := 2) (by decide +kernel))) (fun _ h9 => h9) dX6_set_16 ?_
      refine lv_iload_n hx hb dX6_set_19 rfl (lv_at hl 1 rfl) ?_
      refine va_ti hx hb hst.2.1.2 hS (xi_in rfl hk (by decide)) (v := .int (xs_1 k)) (by rw [xi_cl rfl hk (by decide)]) dX6_set_20 ?_
      refine lv_icmp_lt (tgt := 33) hx hb dX6_set_21 (by decide) (fun c_3 => ?_) (fun c_3 => ?_)
      · have hres : (-2 : Int32) = xa_set (nI k) v := by unfold xa_set; rw [if_neg c_1, if_pos c_2, hcl, if_pos c_3]
        refine lv_bipush (v := (-2)) hx hb dX6_set_33 (by decide) ?_
        exact W.iret (v := (-2)) hx hb hr (fun t ht hWm => ⟨⟨(-2), M, rfl, hres, xw_end ht hW⟩, hS.F ht⟩) hS.2.2 dX6_set_35
      · refine lv_iload_n hx hb dX6_set_24 rfl (lv_at hl 2 rfl) ?_
        refine va_gets hx hb hst.2.2.1.1 hS hown (hts (.fieldLink RX6 48 "HalfTickets" "HIGHEST_SETTING" "[I") (List.mem_of_getElem? (i := 3) (by decide +kernel))) (fun _ h9 => h9) dX6_set_25 ?_
        refine lv_iload_n hx hb dX6_set_28 rfl (lv_at hl 1 rfl) ?_
        refine va_ti hx hb hst.2.2.1.2 hS (xi_in rfl hk (by decide)) (v := .int (xs_2 k)) (by rw [xi_cl rfl hk (by decide)]) dX6_set_29 ?_
        refine lv_icmp_le (tgt := 36) hx hb dX6_set_30 (by decide) (fun c_4 => ?_) (fun c_4 => ?_)
        · have hres : xs_0 k = xa_set (nI k) v := by unfold xa_set; rw [if_neg c_1, if_pos c_2, hcl, if_neg c_3, if_pos c_4]
          refine lv_aload_n hx hb dX6_set_36 rfl (lv_at hl 0 rfl) ?_
          refine xg_get (κ := 16) (ci := 6) (C := RX6) (T := TX6) (N := 6) hx hb hts inX6 hown hK hW hτ (by decide) rfl rfl 2 (by decide) (hts (.fieldLink RX6 22 "HalfTickets" "history" "LHalfTickets$History;") (List.mem_of_getElem? (i := 4) (by decide +kernel))) (fun _ h9 => h9) rfl dX6_set_37 ?_
          refine lv_aload_n hx hb dX6_set_40 rfl (lv_at hl 0 rfl) ?_
          refine xg_get (κ := 16) (ci := 6) (C := RX6) (T := TX6) (N := 6) hx hb hts inX6 hown hK hW hτ (by decide) rfl rfl 0 (by decide) (hts (.fieldLink RX6 10 "HalfTickets" "now" "LHalfTickets$Ministry;") (List.mem_of_getElem? (i := 5) (by decide +kernel))) (fun _ h9 => h9) rfl dX6_set_41 ?_
          refine xc_v (xr_V (As := [.ref (b + 1)]) (rest := []) (κ := 10) ⟨hx, hb, hml, hown, hts⟩ (c_X0_remember l O M (b + 165) (b + 1) (O.b3 hτ) (O.b1 hτ) (by omega) (n := 0) (by omega) hF.2.2.2.2.2.2.1.1 (xp_H hF.1)) (cwV 1 hts gX6_set_X0_remember rfl rfl rfl (by decide +kernel) ⟨Nat.le_of_ble_eq_true rfl, Nat.le_of_ble_eq_true rfl⟩) hK hst hnw hS hW (O.b3 hτ) (by decide) rfl rfl rfl hl.1 rfl (Nat.le_of_ble_eq_true rfl) dX6_set_44 ⟨Nat.zero_le _, Nat.zero_le _⟩) hS (fun M_5 H locs hq_6 hW hS => ?_)
          have hu : ∀ x, x < b + 165 ∨ b + 659 ≤ x → M_5 x = M x := fun x hx => hq_6.2.1 x (by omega)
          refine lv_aload_n hx hb dX6_set_47 rfl (lv_at hl 0 rfl) ?_
          refine xg_get (κ := 16) (ci := 6) (C := RX6) (T := TX6) (N := 6) hx hb hts inX6 hown hK hW hτ (by decide) rfl rfl 0 (by decide) (hts (.fieldLink RX6 10 "HalfTickets" "now" "LHalfTickets$Ministry;") (List.mem_of_getElem? (i := 5) (by decide +kernel))) (fun _ h9 => h9) rfl dX6_set_48 ?_
          refine xg_get (κ := 1) (ci := 2) (C := RX2) (T := TX2) (N := 7) hx hb hts inX2 hown hK hW (O.b1 hτ) (by decide) rfl rfl 0 (by decide) (hts (.fieldLink RX6 55 "HalfTickets$Ministry" "settings" "[I") (List.mem_of_getElem? (i := 6) (by decide +kernel))) (fun _ h9 => h9) rfl dX6_set_51 ?_
          refine lv_iload_n hx hb dX6_set_54 rfl (lv_at hl 1 rfl) ?_
          refine xg_iald (κ := 103) (n := 3) hx hb hK hW (O.m1 (O.b1 hτ)) (by decide) rfl k rfl hk (by decide) dX6_set_55 ?_
          refine lv_istore_n (lv' := [(3, .int (M_5 (b + 2) k)), (0, .ref b), (1, .int (nI k)), (2, .int v)]) hx hb dX6_set_56 rfl hl (by decide) rfl (fun ls hl => ?_)
          refine lv_aload_n hx hb dX6_set_57 rfl (lv_at hl 1 rfl) ?_
          refine xg_get (κ := 16) (ci := 6) (C := RX6) (T := TX6) (N := 6) hx hb hts inX6 hown hK hW hτ (by decide) rfl rfl 0 (by decide) (hts (.fieldLink RX6 10 "HalfTickets" "now" "LHalfTickets$Ministry;") (List.mem_of_getElem? (i := 5) (by decide +kernel))) (fun _ h9 => h9) rfl dX6_set_58 ?_
          refine xg_get (κ := 1) (ci := 2) (C := RX2) (T := TX2) (N := 7) hx hb hts inX2 hown hK hW (O.b1 hτ) (by decide) rfl rfl 0 (by decide) (hts (.fieldLink RX6 55 "HalfTickets$Ministry" "settings" "[I") (List.mem_of_getElem? (i := 6) (by decide +kernel))) (fun _ h9 => h9) rfl dX6_set_61 ?_
          refine lv_iload_n hx hb dX6_set_64 rfl (lv_at hl 2 rfl) ?_
          refine lv_iload_n hx hb dX6_set_65 rfl (lv_at hl 3 rfl) ?_
          refine xg_iast (κ := 103) (n := 3) hx hb hK O hW hS (O.m1 (O.b1 hτ)) (by decide) (fun _ => rfl) (fun _ => trivial) k rfl hk (by decide) dX6_set_66 (fun H locs hW hS => ?_)
          obtain ⟨M_8, eM_8⟩ : ∃ M9, M9 = xu_p M_5 (b + 2) k v := ⟨_, rfl⟩
          rw [← eM_8] at hW
          refine lv_iload_n hx hb dX6_set_67 rfl (lv_at hl 0 rfl) ?_
          exact W.iret (v := (M_5 (b + 2) k)) hx hb hr (fun t ht hWm => ⟨⟨(M_5 (b + 2) k), M_8, rfl, (by rw [hu (b + 2) (by omega), hF.2.2.2.1 k hk]; exact hres), xw_end ht hW⟩, hS.F ht⟩) hS.2.2 dX6_set_68
        · have hres : (-2 : Int32) = xa_set (nI k) v := by unfold xa_set; rw [if_neg c_1, if_pos c_2, hcl, if_neg c_3, if_neg c_4]
          refine lv_bipush (v := (-2)) hx hb dX6_set_33 (by decide) ?_
          exact W.iret (v := (-2)) hx hb hr (fun t ht hWm => ⟨⟨(-2), M, rfl, hres, xw_end ht hW⟩, hS.F ht⟩) hS.2.2 dX6_set_35
    · have hres : (-2 : Int32) = xa_set i v := by unfold xa_set; rw [if_neg c_1, if_neg c_2]
      refine lv_bipush (v := (-2)) hx hb dX6_set_12 (by decide) ?_
      exact W.iret (v := (-2)) hx hb hr (fun t ht hWm => ⟨⟨(-2), M, rfl, hres, xw_end ht hW⟩, hS.F ht⟩) hS.2.2 dX6_set_14

set_option maxHeartbeats 4000000 in
set_option maxRecDepth 100000 in
/-- window on a new object -/
theorem cp_window (l : Launch) {G : va_G} {g : Nat → ClassId} {t0 τ : Nat → Nat} {A : Nat → Prop} (O : xk_O τ A) (M : xm_T) (b : Nat) (hτ : τ b = 16) (hF : xp_F M b) (i v : Int32) (hv : xb_01 v) : Met l yX6_window wsX6_window ({ frames := 5, cells := 0, slots := 0, locals := 160 }) (va_Pc [.ref b, .int i, .int v] (xS_t G g t0 τ A M)) (va_Qi (fun r M' => r = xa_win i v) (fun M' t => xw_D G g τ M' t.heap) A) 0 0 A := by
  refine Met.ofW (cc := cX6_window) (maxL := 4) (ret := (some .int)) (by decide) rfl ?_
  intro p e s m args below meth c s₁ B hml hv
  obtain ⟨rfl, hW, hK, hst, hnw⟩ := hv
  have hx := B.exec
  have hb := B.bytes
  have hr := B.returns
  have hts := atoms_spec (ws := wsX6_window) B.pre
  have hown : s.vm.findClass RX6 = some m.cls := findClass_of_methodNamed B.named
  have hlocks := B.notSynchronized
  have hS : va_S A s.heap s.heap [] := va_S.rf
  have inX5 : ∀ w ∈ u_ws RX5 TX5 7, w ∈ wsX6_window := by decide +kernel
  have inX6 : ∀ w ∈ u_ws RX6 TX6 6, w ∈ wsX6_window := by decide +kernel
  have hl := lv_entry ([.ref b, .int i, .int v]) (n := 4) (Nat.le_of_ble_eq_true rfl)
  rw [lg_entry_eq]
  generalize (lg_sl ([.ref b, .int i, .int v]) ++ List.replicate (4 - (lg_sl ([.ref b, .int i, .int v])).length) Slot.unset).toArray = ls at hl ⊢
  have hl : lv_has ls 4 [(0, .ref b), (1, .int i), (2, .int v)] := hl
  rcases pk_ix i (n := 6) (by omega) with hlo | hhi | ⟨k, hk, rfl⟩
  · have hres : (-1 : Int32) = xa_win i v := by unfold xa_win; rw [if_pos (Or.inl hlo)]
    refine lv_aload_n hx hb dX6_window_0 rfl (lv_at hl 0 rfl) ?_
    refine xg_get (κ := 16) (ci := 6) (C := RX6) (T := TX6) (N := 6) hx hb hts inX6 hown hK hW hτ (by decide) rfl rfl 0 (by decide) (hts (.fieldLink RX6 10 "HalfTickets" "now" "LHalfTickets$Ministry;") (List.mem_of_getElem? (i := 1) (by decide +kernel))) (fun _ h9 => h9) rfl dX6_window_1 ?_
    refine lv_iload_n hx hb dX6_window_4 rfl (lv_at hl 1 rfl) ?_
    refine xc_q (xr_V (As := [.int i]) (rest := []) (κ := 1) ⟨hx, hb, hml, hown, hts⟩ (c_X2_windowAt l O M (b + 1) (O.b1 hτ) i) (cwV 1 hts gX6_window_X2_windowAt rfl rfl rfl (by decide +kernel) ⟨Nat.le_of_ble_eq_true rfl, Nat.le_of_ble_eq_true rfl⟩) hK hst hnw hS hW (O.b1 hτ) (by decide) rfl rfl rfl hl.1 rfl (Nat.le_of_ble_eq_true rfl) dX6_window_5 ⟨Nat.zero_le _, Nat.zero_le _⟩) hS (fun r_3 M_1 H locs hq_2 hW hS => ?_)
    obtain ⟨hq_2a, hq_2b⟩ := hq_2
    rw [hq_2b] at hW
    rw [hq_2a]
    rw [xf_win_n _ (Or.inl hlo)]
    refine W.eq (g2 := F0 m 8 ls [.null]) rfl ?_
    refine lv_astore_nN (lv' := [(3, .null), (0, .ref b), (1, .int i), (2, .int v)]) hx hb dX6_window_8 rfl hl (by decide) rfl (fun ls hl => ?_)
    refine lv_aload_nN hx hb dX6_window_9 rfl (lv_at hl 0 rfl) ?_
    refine lv_ifnonnullN hx hb dX6_window_10 ?_
    refine lv_iconst (v := (-1)) hx hb dX6_window_13 (by decide) ?_
    exact W.iret (v := (-1)) hx hb hr (fun t ht hWm => ⟨⟨(-1), M, rfl, hres, xw_end ht hW⟩, hS.F ht⟩) hS.2.2 dX6_window_14
  · have hres : (-1 : Int32) = xa_win i v := by unfold xa_win; rw [if_pos (Or.inr hhi)]
    refine lv_aload_n hx hb dX6_window_0 rfl (lv_at hl 0 rfl) ?_
    refine xg_get (κ := 16) (ci := 6) (C := RX6) (T := TX6) (N := 6) hx hb hts inX6 hown hK hW hτ (by decide) rfl rfl 0 (by decide) (hts (.fieldLink RX6 10 "HalfTickets" "now" "LHalfTickets$Ministry;") (List.mem_of_getElem? (i := 1) (by decide +kernel))) (fun _ h9 => h9) rfl dX6_window_1 ?_
    refine lv_iload_n hx hb dX6_window_4 rfl (lv_at hl 1 rfl) ?_
    refine xc_q (xr_V (As := [.int i]) (rest := []) (κ := 1) ⟨hx, hb, hml, hown, hts⟩ (c_X2_windowAt l O M (b + 1) (O.b1 hτ) i) (cwV 1 hts gX6_window_X2_windowAt rfl rfl rfl (by decide +kernel) ⟨Nat.le_of_ble_eq_true rfl, Nat.le_of_ble_eq_true rfl⟩) hK hst hnw hS hW (O.b1 hτ) (by decide) rfl rfl rfl hl.1 rfl (Nat.le_of_ble_eq_true rfl) dX6_window_5 ⟨Nat.zero_le _, Nat.zero_le _⟩) hS (fun r_6 M_4 H locs hq_5 hW hS => ?_)
    obtain ⟨hq_5a, hq_5b⟩ := hq_5
    rw [hq_5b] at hW
    rw [hq_5a]
    rw [xf_win_n _ (Or.inr hhi)]
    refine W.eq (g2 := F0 m 8 ls [.null]) rfl ?_
    refine lv_astore_nN (lv' := [(3, .null), (0, .ref b), (1, .int i), (2, .int v)]) hx hb dX6_window_8 rfl hl (by decide) rfl (fun ls hl => ?_)
    refine lv_aload_nN hx hb dX6_window_9 rfl (lv_at hl 0 rfl) ?_
    refine lv_ifnonnullN hx hb dX6_window_10 ?_
    refine lv_iconst (v := (-1)) hx hb dX6_window_13 (by decide) ?_
    exact W.iret (v := (-1)) hx hb hr (fun t ht hWm => ⟨⟨(-1), M, rfl, hres, xw_end ht hW⟩, hS.F ht⟩) hS.2.2 dX6_window_14
  · have hni : ¬ (nI k < 0 ∨ nI 6 ≤ nI k) := fun q => q.elim (nI_pos (by omega)) (nI_ge hk (by decide))
    refine lv_aload_n hx hb dX6_window_0 rfl (lv_at hl 0 rfl) ?_
    refine xg_get (κ := 16) (ci := 6) (C := RX6) (T := TX6) (N := 6) hx hb hts inX6 hown hK hW hτ (by decide) rfl rfl 0 (by decide) (hts (.fieldLink RX6 10 "HalfTickets" "now" "LHalfTickets$Ministry;") (List.mem_of_getElem? (i := 1) (by decide +kernel))) (fun _ h9 => h9) rfl dX6_window_1 ?_
    refine lv_iload_n hx hb dX6_window_4 rfl (lv_at hl 1 rfl) ?_
    refine xc_q (xr_V (As := [.int (nI k)]) (rest := []) (κ := 1) ⟨hx, hb, hml, hown, hts⟩ (c_X2_windowAt l O M (b + 1) (O.b1 hτ) (nI k)) (cwV 1 hts gX6_window_X2_windowAt rfl rfl rfl (by decide +kernel) ⟨Nat.le_of_ble_eq_true rfl, Nat.le_of_ble_eq_true rfl⟩) hK hst hnw hS hW (O.b1 hτ) (by decide) rfl rfl rfl hl.1 rfl (Nat.le_of_ble_eq_true rfl) dX6_window_5 ⟨Nat.zero_le _, Nat.zero_le _⟩) hS (fun r_9 M_7 H locs hq_8 hW hS => ?_)
    obtain ⟨hq_8a, hq_8b⟩ := hq_8
    rw [hq_8b] at hW
    rw [hq_8a]
    rw [xf_win_s _ hk]
    refine W.eq (g2 := F0 m 8 ls [.ref ((b + 1) + 5 * k + 4)]) rfl ?_
    refine lv_astore_n (lv' := [(3, .ref ((b + 1) + 5 * k + 4)), (0, .ref b), (1, .int (nI k)), (2, .int v)]) hx hb dX6_window_8 rfl hl (by decide) rfl (fun ls hl => ?_)
    refine lv_aload_n hx hb dX6_window_9 rfl (lv_at hl 0 rfl) ?_
    refine lv_ifnonnull (tgt := 15) hx hb dX6_window_10 (by decide) ?_
    refine lv_aload_n hx hb dX6_window_15 rfl (lv_at hl 0 rfl) ?_
    refine xg_get (κ := 5) (ci := 5) (C := RX5) (T := TX5) (N := 7) hx hb hts inX5 hown hK hW (O.w (O.b1 hτ) hk) (by decide) rfl rfl 0 (by decide) (hts (.fieldLink RX6 62 "HalfTickets$Window" "isOpen" "Z") (List.mem_of_getElem? (i := 2) (by decide +kernel))) (fun _ h9 => h9) rfl dX6_window_16 ?_
    refine lv_iload_n hx hb dX6_window_19 rfl (lv_at hl 3 rfl) ?_
    refine lv_icmp_ne (tgt := 26) hx hb dX6_window_20 (by decide) (fun c_10 => ?_) (fun c_10 => ?_)
    · refine lv_aload_n hx hb dX6_window_26 rfl (lv_at hl 1 rfl) ?_
      refine xg_get (κ := 16) (ci := 6) (C := RX6) (T := TX6) (N := 6) hx hb hts inX6 hown hK hW hτ (by decide) rfl rfl 2 (by decide) (hts (.fieldLink RX6 22 "HalfTickets" "history" "LHalfTickets$History;") (List.mem_of_getElem? (i := 3) (by decide +kernel))) (fun _ h9 => h9) rfl dX6_window_27 ?_
      refine lv_aload_n hx hb dX6_window_30 rfl (lv_at hl 1 rfl) ?_
      refine xg_get (κ := 16) (ci := 6) (C := RX6) (T := TX6) (N := 6) hx hb hts inX6 hown hK hW hτ (by decide) rfl rfl 0 (by decide) (hts (.fieldLink RX6 10 "HalfTickets" "now" "LHalfTickets$Ministry;") (List.mem_of_getElem? (i := 1) (by decide +kernel))) (fun _ h9 => h9) rfl dX6_window_31 ?_
      refine xc_v (xr_V (As := [.ref (b + 1)]) (rest := []) (κ := 10) ⟨hx, hb, hml, hown, hts⟩ (c_X0_remember l O M (b + 165) (b + 1) (O.b3 hτ) (O.b1 hτ) (by omega) (n := 0) (by omega) hF.2.2.2.2.2.2.1.1 (xp_H hF.1)) (cwV 1 hts gX6_window_X0_remember rfl rfl rfl (by decide +kernel) ⟨Nat.le_of_ble_eq_true rfl, Nat.le_of_ble_eq_true rfl⟩) hK hst hnw hS hW (O.b3 hτ) (by decide) rfl rfl rfl hl.1 rfl (Nat.le_of_ble_eq_true rfl) dX6_window_34 ⟨Nat.zero_le _, Nat.zero_le _⟩) hS (fun M_11 H locs hq_12 hW hS => ?_)
      have hu : ∀ x, x < b + 165 ∨ b + 659 ≤ x → M_11 x = M x := fun x hx => hq_12.2.1 x (by omega)
      refine lv_aload_n hx hb dX6_window_37 rfl (lv_at hl 0 rfl) ?_
      refine lv_iload_n hx hb dX6_window_38 rfl (lv_at hl 3 rfl) ?_
      refine xg_put (κ := 5) (ci := 5) (C := RX5) (T := TX5) (N := 7) hx hb hts inX5 tyX5 tyX5_ok nmX5 hown hK O hW hS (O.w (O.b1 hτ) hk) (by decide) rfl rfl 0 (by decide) (v := v) rfl hv (hts (.fieldLink RX6 62 "HalfTickets$Window" "isOpen" "Z") (List.mem_of_getElem? (i := 2) (by decide +kernel))) (fun _ h9 => h9) rfl (ty := .boolean) (by decide +kernel) (xb_nar hv) (xb_fit hv) (Nat.le_of_ble_eq_true rfl) dX6_window_39 (fun H locs hW hS => ?_)
      obtain ⟨M_14, eM_14⟩ : ∃ M9, M9 = xu_p M_11 ((b + 1) + 5 * k + 4) 0 v := ⟨_, rfl⟩
      rw [← eM_14] at hW
      refine lv_aload_n hx hb dX6_window_42 rfl (lv_at hl 1 rfl) ?_
      refine xg_get (κ := 16) (ci := 6) (C := RX6) (T := TX6) (N := 6) hx hb hts inX6 hown hK hW hτ (by decide) rfl rfl 0 (by decide) (hts (.fieldLink RX6 10 "HalfTickets" "now" "LHalfTickets$Ministry;") (List.mem_of_getElem? (i := 1) (by decide +kernel))) (fun _ h9 => h9) rfl dX6_window_43 ?_
      refine xc_i (xr_V (As := []) (rest := []) (κ := 1) ⟨hx, hb, hml, hown, hts⟩ (c_X2_openWindows l O M_14 (b + 1) (O.b1 hτ)) (cwV 0 hts gX6_window_X2_openWindows rfl rfl rfl (by decide +kernel) ⟨Nat.le_of_ble_eq_true rfl, Nat.le_of_ble_eq_true rfl⟩) hK hst hnw hS hW (O.b1 hτ) (by decide) rfl rfl rfl hl.1 rfl (Nat.le_of_ble_eq_true rfl) dX6_window_46 ⟨Nat.zero_le _, Nat.zero_le _⟩) hS (fun r_17 M_15 H locs hq_16 hW hS => ?_)
      obtain ⟨hq_16a, hq_16b⟩ := hq_16
      rw [hq_16b] at hW
      rw [hq_16a]
      exact W.iret (v := (xf_sum (fun k => if M_14 ((b + 1) + 5 * k + 4) 0 = 0 then nI 0 else nI 1) 6)) hx hb hr (fun t ht hWm => ⟨⟨(xf_sum (fun k => if M_14 ((b + 1) + 5 * k + 4) 0 = 0 then nI 0 else nI 1) 6), M_14, rfl, (by
            have hv0 : v = nI 0 := by
              rcases hv with h | h
              · exact h
              · exact absurd ((hF.2.2.2.2.1 k hk).1.trans (h.symm ▸ rfl)) c_10
            unfold xa_win
            rw [if_neg hni, if_neg (by rw [hv0]; decide)]
            have hs : ∀ j, j < 6 → (if M_14 (b + 1 + 5 * j + 4) 0 = 0 then nI 0 else nI 1) = if j = k then nI 0 else nI 1 := fun j hj => by
              rw [eM_14]
              by_cases hjk : j = k
              · subst hjk
                rw [xu_s, hv0, if_pos rfl]
                exact if_pos rfl
              · rw [xu_n _ (Or.inl (by omega)), hu _ (by omega), (hF.2.2.2.2.1 j hj).1, if_neg (by decide), if_neg hjk]
            rw [xf_sum_c hs]
            rcases (show k = 0 ∨ k = 1 ∨ k = 2 ∨ k = 3 ∨ k = 4 ∨ k = 5 by omega) with rfl | rfl | rfl | rfl | rfl | rfl <;> rfl), xw_end ht hW⟩, hS.F ht⟩) hS.2.2 dX6_window_49
    · refine lv_bipush (v := (-5)) hx hb dX6_window_23 (by decide) ?_
      exact W.iret (v := (-5)) hx hb hr (fun t ht hWm => ⟨⟨(-5), M, rfl, (by unfold xa_win; rw [if_neg hni, if_pos (c_10.symm.trans (hF.2.2.2.2.1 k hk).1)]), xw_end ht hW⟩, hS.F ht⟩) hS.2.2 dX6_window_25

set_option maxHeartbeats 4000000 in
set_option maxRecDepth 100000 in
/-- clerks on a new object -/
theorem cp_clerks (l : Launch) {G : va_G} {g : Nat → ClassId} {t0 τ : Nat → Nat} {A : Nat → Prop} (O : xk_O τ A) (M : xm_T) (b : Nat) (hτ : τ b = 16) (hF : xp_F M b) (i v : Int32) : Met l yX6_clerks wsX6_clerks ({ frames := 5, cells := 0, slots := 0, locals := 160 }) (va_Pc [.ref b, .int i, .int v] (xS_t G g t0 τ A M)) (va_Qi (fun r M' => r = xa_clk i v) (fun M' t => xw_D G g τ M' t.heap) A) 0 0 A := by
  refine Met.ofW (cc := cX6_clerks) (maxL := 5) (ret := (some .int)) (by decide) rfl ?_
  intro p e s m args below meth c s₁ B hml hv
  obtain ⟨rfl, hW, hK, hst, hnw⟩ := hv
  have hx := B.exec
  have hb := B.bytes
  have hr := B.returns
  have hts := atoms_spec (ws := wsX6_clerks) B.pre
  have hown : s.vm.findClass RX6 = some m.cls := findClass_of_methodNamed B.named
  have hlocks := B.notSynchronized
  have hS : va_S A s.heap s.heap [] := va_S.rf
  have inX5 : ∀ w ∈ u_ws RX5 TX5 7, w ∈ wsX6_clerks := by decide +kernel
  have inX6 : ∀ w ∈ u_ws RX6 TX6 6, w ∈ wsX6_clerks := by decide +kernel
  have hl := lv_entry ([.ref b, .int i, .int v]) (n := 5) (Nat.le_of_ble_eq_true rfl)
  rw [lg_entry_eq]
  generalize (lg_sl ([.ref b, .int i, .int v]) ++ List.replicate (5 - (lg_sl ([.ref b, .int i, .int v])).length) Slot.unset).toArray = ls at hl ⊢
  have hl : lv_has ls 5 [(0, .ref b), (1, .int i), (2, .int v)] := hl
  rcases pk_ix i (n := 6) (by omega) with hlo | hhi | ⟨k, hk, rfl⟩
  · have hres : (-1 : Int32) = xa_clk i v := by unfold xa_clk; rw [if_pos (Or.inl hlo)]
    refine lv_aload_n hx hb dX6_clerks_0 rfl (lv_at hl 0 rfl) ?_
    refine xg_get (κ := 16) (ci := 6) (C := RX6) (T := TX6) (N := 6) hx hb hts inX6 hown hK hW hτ (by decide) rfl rfl 0 (by decide) (hts (.fieldLink RX6 10 "HalfTickets" "now" "LHalfTickets$Ministry;") (List.mem_of_getElem? (i := 1) (by decide +kernel))) (fun _ h9 => h9) rfl dX6_clerks_1 ?_
    refine lv_iload_n hx hb dX6_clerks_4 rfl (lv_at hl 1 rfl) ?_
    refine xc_q (xr_V (As := [.int i]) (rest := []) (κ := 1) ⟨hx, hb, hml, hown, hts⟩ (c_X2_windowAt l O M (b + 1) (O.b1 hτ) i) (cwV 1 hts gX6_clerks_X2_windowAt rfl rfl rfl (by decide +kernel) ⟨Nat.le_of_ble_eq_true rfl, Nat.le_of_ble_eq_true rfl⟩) hK hst hnw hS hW (O.b1 hτ) (by decide) rfl rfl rfl hl.1 rfl (Nat.le_of_ble_eq_true rfl) dX6_clerks_5 ⟨Nat.zero_le _, Nat.zero_le _⟩) hS (fun r_3 M_1 H locs hq_2 hW hS => ?_)
    obtain ⟨hq_2a, hq_2b⟩ := hq_2
    rw [hq_2b] at hW
    rw [hq_2a]
    rw [xf_win_n _ (Or.inl hlo)]
    refine W.eq (g2 := F0 m 8 ls [.null]) rfl ?_
    refine lv_astore_nN (lv' := [(3, .null), (0, .ref b), (1, .int i), (2, .int v)]) hx hb dX6_clerks_8 rfl hl (by decide) rfl (fun ls hl => ?_)
    refine lv_aload_nN hx hb dX6_clerks_9 rfl (lv_at hl 0 rfl) ?_
    refine lv_ifnonnullN hx hb dX6_clerks_10 ?_
    refine lv_iconst (v := (-1)) hx hb dX6_clerks_13 (by decide) ?_
    exact W.iret (v := (-1)) hx hb hr (fun t ht hWm => ⟨⟨(-1), M, rfl, hres, xw_end ht hW⟩, hS.F ht⟩) hS.2.2 dX6_clerks_14
  · have hres : (-1 : Int32) = xa_clk i v := by unfold xa_clk; rw [if_pos (Or.inr hhi)]
    refine lv_aload_n hx hb dX6_clerks_0 rfl (lv_at hl 0 rfl) ?_
    refine xg_get (κ := 16) (ci := 6) (C := RX6) (T := TX6) (N := 6) hx hb hts inX6 hown hK hW hτ (by decide) rfl rfl 0 (by decide) (hts (.fieldLink RX6 10 "HalfTickets" "now" "LHalfTickets$Ministry;") (List.mem_of_getElem? (i := 1) (by decide +kernel))) (fun _ h9 => h9) rfl dX6_clerks_1 ?_
    refine lv_iload_n hx hb dX6_clerks_4 rfl (lv_at hl 1 rfl) ?_
    refine xc_q (xr_V (As := [.int i]) (rest := []) (κ := 1) ⟨hx, hb, hml, hown, hts⟩ (c_X2_windowAt l O M (b + 1) (O.b1 hτ) i) (cwV 1 hts gX6_clerks_X2_windowAt rfl rfl rfl (by decide +kernel) ⟨Nat.le_of_ble_eq_true rfl, Nat.le_of_ble_eq_true rfl⟩) hK hst hnw hS hW (O.b1 hτ) (by decide) rfl rfl rfl hl.1 rfl (Nat.le_of_ble_eq_true rfl) dX6_clerks_5 ⟨Nat.zero_le _, Nat.zero_le _⟩) hS (fun r_6 M_4 H locs hq_5 hW hS => ?_)
    obtain ⟨hq_5a, hq_5b⟩ := hq_5
    rw [hq_5b] at hW
    rw [hq_5a]
    rw [xf_win_n _ (Or.inr hhi)]
    refine W.eq (g2 := F0 m 8 ls [.null]) rfl ?_
    refine lv_astore_nN (lv' := [(3, .null), (0, .ref b), (1, .int i), (2, .int v)]) hx hb dX6_clerks_8 rfl hl (by decide) rfl (fun ls hl => ?_)
    refine lv_aload_nN hx hb dX6_clerks_9 rfl (lv_at hl 0 rfl) ?_
    refine lv_ifnonnullN hx hb dX6_clerks_10 ?_
    refine lv_iconst (v := (-1)) hx hb dX6_clerks_13 (by decide) ?_
    exact W.iret (v := (-1)) hx hb hr (fun t ht hWm => ⟨⟨(-1), M, rfl, hres, xw_end ht hW⟩, hS.F ht⟩) hS.2.2 dX6_clerks_14
  · have hni : ¬ (nI k < 0 ∨ nI 6 ≤ nI k) := fun q => q.elim (nI_pos (by omega)) (nI_ge hk (by decide))
    refine lv_aload_n hx hb dX6_clerks_0 rfl (lv_at hl 0 rfl) ?_
    refine xg_get (κ := 16) (ci := 6) (C := RX6) (T := TX6) (N := 6) hx hb hts inX6 hown hK hW hτ (by decide) rfl rfl 0 (by decide) (hts (.fieldLink RX6 10 "HalfTickets" "now" "LHalfTickets$Ministry;") (List.mem_of_getElem? (i := 1) (by decide +kernel))) (fun _ h9 => h9) rfl dX6_clerks_1 ?_
    refine lv_iload_n hx hb dX6_clerks_4 rfl (lv_at hl 1 rfl) ?_
    refine xc_q (xr_V (As := [.int (nI k)]) (rest := []) (κ := 1) ⟨hx, hb, hml, hown, hts⟩ (c_X2_windowAt l O M (b + 1) (O.b1 hτ) (nI k)) (cwV 1 hts gX6_clerks_X2_windowAt rfl rfl rfl (by decide +kernel) ⟨Nat.le_of_ble_eq_true rfl, Nat.le_of_ble_eq_true rfl⟩) hK hst hnw hS hW (O.b1 hτ) (by decide) rfl rfl rfl hl.1 rfl (Nat.le_of_ble_eq_true rfl) dX6_clerks_5 ⟨Nat.zero_le _, Nat.zero_le _⟩) hS (fun r_9 M_7 H locs hq_8 hW hS => ?_)
    obtain ⟨hq_8a, hq_8b⟩ := hq_8
    rw [hq_8b] at hW
    rw [hq_8a]
    rw [xf_win_s _ hk]
    refine W.eq (g2 := F0 m 8 ls [.ref ((b + 1) + 5 * k + 4)]) rfl ?_
    refine lv_astore_n (lv' := [(3, .ref ((b + 1) + 5 * k + 4)), (0, .ref b), (1, .int (nI k)), (2, .int v)]) hx hb dX6_clerks_8 rfl hl (by decide) rfl (fun ls hl => ?_)
    refine lv_aload_n hx hb dX6_clerks_9 rfl (lv_at hl 0 rfl) ?_
    refine lv_ifnonnull (tgt := 15) hx hb dX6_clerks_10 (by decide) ?_
    refine lv_iload_n hx hb dX6_clerks_15 rfl (lv_at hl 3 rfl) ?_
    refine lv_if_lt (tgt := 24) hx hb dX6_clerks_16 (by decide) (fun c_10 => ?_) (fun c_10 => ?_)
    · have hres : (-2 : Int32) = xa_clk (nI k) v := by unfold xa_clk; rw [if_neg hni, if_pos c_10]
      refine lv_bipush (v := (-2)) hx hb dX6_clerks_24 (by decide) ?_
      exact W.iret (v := (-2)) hx hb hr (fun t ht hWm => ⟨⟨(-2), M, rfl, hres, xw_end ht hW⟩, hS.F ht⟩) hS.2.2 dX6_clerks_26
    · refine lv_iload_n hx hb dX6_clerks_19 rfl (lv_at hl 3 rfl) ?_
      refine lv_iconst (v := (nI 3)) hx hb dX6_clerks_20 (by decide) ?_
      refine lv_icmp_le (tgt := 27) hx hb dX6_clerks_21 (by decide) (fun c_11 => ?_) (fun c_11 => ?_)
      · have hres : nI 1 = xa_clk (nI k) v := by unfold xa_clk; rw [if_neg hni, if_neg c_10, if_pos c_11]
        refine lv_aload_n hx hb dX6_clerks_27 rfl (lv_at hl 1 rfl) ?_
        refine xg_get (κ := 16) (ci := 6) (C := RX6) (T := TX6) (N := 6) hx hb hts inX6 hown hK hW hτ (by decide) rfl rfl 2 (by decide) (hts (.fieldLink RX6 22 "HalfTickets" "history" "LHalfTickets$History;") (List.mem_of_getElem? (i := 2) (by decide +kernel))) (fun _ h9 => h9) rfl dX6_clerks_28 ?_
        refine lv_aload_n hx hb dX6_clerks_31 rfl (lv_at hl 1 rfl) ?_
        refine xg_get (κ := 16) (ci := 6) (C := RX6) (T := TX6) (N := 6) hx hb hts inX6 hown hK hW hτ (by decide) rfl rfl 0 (by decide) (hts (.fieldLink RX6 10 "HalfTickets" "now" "LHalfTickets$Ministry;") (List.mem_of_getElem? (i := 1) (by decide +kernel))) (fun _ h9 => h9) rfl dX6_clerks_32 ?_
        refine xc_v (xr_V (As := [.ref (b + 1)]) (rest := []) (κ := 10) ⟨hx, hb, hml, hown, hts⟩ (c_X0_remember l O M (b + 165) (b + 1) (O.b3 hτ) (O.b1 hτ) (by omega) (n := 0) (by omega) hF.2.2.2.2.2.2.1.1 (xp_H hF.1)) (cwV 1 hts gX6_clerks_X0_remember rfl rfl rfl (by decide +kernel) ⟨Nat.le_of_ble_eq_true rfl, Nat.le_of_ble_eq_true rfl⟩) hK hst hnw hS hW (O.b3 hτ) (by decide) rfl rfl rfl hl.1 rfl (Nat.le_of_ble_eq_true rfl) dX6_clerks_35 ⟨Nat.zero_le _, Nat.zero_le _⟩) hS (fun M_12 H locs hq_13 hW hS => ?_)
        have hu : ∀ x, x < b + 165 ∨ b + 659 ≤ x → M_12 x = M x := fun x hx => hq_13.2.1 x (by omega)
        refine lv_aload_n hx hb dX6_clerks_38 rfl (lv_at hl 0 rfl) ?_
        refine xg_get (κ := 5) (ci := 5) (C := RX5) (T := TX5) (N := 7) hx hb hts inX5 hown hK hW (O.w (O.b1 hτ) hk) (by decide) rfl rfl 1 (by decide) (hts (.fieldLink RX6 72 "HalfTickets$Window" "clerks" "I") (List.mem_of_getElem? (i := 3) (by decide +kernel))) (fun _ h9 => h9) rfl dX6_clerks_39 ?_
        refine lv_istore (lv' := [(4, .int (M_12 ((b + 1) + 5 * k + 4) 1)), (3, .ref ((b + 1) + 5 * k + 4)), (0, .ref b), (1, .int (nI k)), (2, .int v)]) hx hb dX6_clerks_42 hl (by decide) rfl (fun ls hl => ?_)
        refine lv_aload_n hx hb dX6_clerks_44 rfl (lv_at hl 1 rfl) ?_
        refine lv_iload_n hx hb dX6_clerks_45 rfl (lv_at hl 4 rfl) ?_
        refine xg_put (κ := 5) (ci := 5) (C := RX5) (T := TX5) (N := 7) hx hb hts inX5 tyX5 tyX5_ok nmX5 hown hK O hW hS (O.w (O.b1 hτ) hk) (by decide) rfl rfl 1 (by decide) (v := v) rfl (xw_okp hW (O.w (O.b1 hτ) hk) (by decide)) (hts (.fieldLink RX6 72 "HalfTickets$Window" "clerks" "I") (List.mem_of_getElem? (i := 3) (by decide +kernel))) (fun _ h9 => h9) rfl (ty := .int) (by decide +kernel) rfl rfl (Nat.le_of_ble_eq_true rfl) dX6_clerks_46 (fun H locs hW hS => ?_)
        obtain ⟨M_15, eM_15⟩ : ∃ M9, M9 = xu_p M_12 ((b + 1) + 5 * k + 4) 1 v := ⟨_, rfl⟩
        rw [← eM_15] at hW
        refine lv_iload hx hb dX6_clerks_49 (lv_at hl 0 rfl) ?_
        exact W.iret (v := (M_12 ((b + 1) + 5 * k + 4) 1)) hx hb hr (fun t ht hWm => ⟨⟨(M_12 ((b + 1) + 5 * k + 4) 1), M_15, rfl, (by rw [hu _ (by omega), (hF.2.2.2.2.1 k hk).2.1]; exact hres), xw_end ht hW⟩, hS.F ht⟩) hS.2.2 dX6_clerks_51
      · have hres : (-2 : Int32) = xa_clk (nI k) v := by unfold xa_clk; rw [if_neg hni, if_neg c_10, if_neg c_11]
        refine lv_bipush (v := (-2)) hx hb dX6_clerks_24 (by decide) ?_
        exact W.iret (v := (-2)) hx hb hr (fun t ht hWm => ⟨⟨(-2), M, rfl, hres, xw_end ht hW⟩, hS.F ht⟩) hS.2.2 dX6_clerks_26

set_option maxHeartbeats 4000000 in
set_option maxRecDepth 100000 in
/-- bring on a new object -/
theorem cp_bring (l : Launch) {G : va_G} {g : Nat → ClassId} {t0 τ : Nat → Nat} {A : Nat → Prop} (O : xk_O τ A) (M : xm_T) (b : Nat) (hτ : τ b = 16) (hF : xp_F M b) (i : Int32) : Met l yX6_bring wsX6_bring ({ frames := 5, cells := 0, slots := 0, locals := 160 }) (va_Pc [.ref b, .int i] (xS_t G g t0 τ A M)) (va_Qi (fun r M' => r = xa_bri i) (fun M' t => xw_D G g τ M' t.heap) A) 0 0 A := by
  refine Met.ofW (cc := cX6_bring) (maxL := 4) (ret := (some .int)) (by decide) rfl ?_
  intro p e s m args below meth c s₁ B hml hv
  obtain ⟨rfl, hW, hK, hst, hnw⟩ := hv
  have hx := B.exec
  have hb := B.bytes
  have hr := B.returns
  have hts := atoms_spec (ws := wsX6_bring) B.pre
  have hown : s.vm.findClass RX6 = some m.cls := findClass_of_methodNamed B.named
  have hlocks := B.notSynchronized
  have hS : va_S A s.heap s.heap [] := va_S.rf
  have inX2 : ∀ w ∈ u_ws RX2 TX2 7, w ∈ wsX6_bring := by decide +kernel
  have inX5 : ∀ w ∈ u_ws RX5 TX5 7, w ∈ wsX6_bring := by decide +kernel
  have inX6 : ∀ w ∈ u_ws RX6 TX6 6, w ∈ wsX6_bring := by decide +kernel
  have hl := lv_entry ([.ref b, .int i]) (n := 4) (Nat.le_of_ble_eq_true rfl)
  rw [lg_entry_eq]
  generalize (lg_sl ([.ref b, .int i]) ++ List.replicate (4 - (lg_sl ([.ref b, .int i])).length) Slot.unset).toArray = ls at hl ⊢
  have hl : lv_has ls 4 [(0, .ref b), (1, .int i)] := hl
  rcases pk_ix i (n := 6) (by omega) with hlo | hhi | ⟨k, hk, rfl⟩
  · have hres : (-1 : Int32) = xa_bri i := by unfold xa_bri; rw [if_pos (Or.inl hlo)]
    refine lv_aload_n hx hb dX6_bring_0 rfl (lv_at hl 0 rfl) ?_
    refine xg_get (κ := 16) (ci := 6) (C := RX6) (T := TX6) (N := 6) hx hb hts inX6 hown hK hW hτ (by decide) rfl rfl 0 (by decide) (hts (.fieldLink RX6 10 "HalfTickets" "now" "LHalfTickets$Ministry;") (List.mem_of_getElem? (i := 1) (by decide +kernel))) (fun _ h9 => h9) rfl dX6_bring_1 ?_
    refine lv_iload_n hx hb dX6_bring_4 rfl (lv_at hl 1 rfl) ?_
    refine xc_q (xr_V (As := [.int i]) (rest := []) (κ := 1) ⟨hx, hb, hml, hown, hts⟩ (c_X2_windowAt l O M (b + 1) (O.b1 hτ) i) (cwV 1 hts gX6_bring_X2_windowAt rfl rfl rfl (by decide +kernel) ⟨Nat.le_of_ble_eq_true rfl, Nat.le_of_ble_eq_true rfl⟩) hK hst hnw hS hW (O.b1 hτ) (by decide) rfl rfl rfl hl.1 rfl (Nat.le_of_ble_eq_true rfl) dX6_bring_5 ⟨Nat.zero_le _, Nat.zero_le _⟩) hS (fun r_3 M_1 H locs hq_2 hW hS => ?_)
    obtain ⟨hq_2a, hq_2b⟩ := hq_2
    rw [hq_2b] at hW
    rw [hq_2a]
    rw [xf_win_n _ (Or.inl hlo)]
    refine W.eq (g2 := F0 m 8 ls [.null]) rfl ?_
    refine lv_astore_nN (lv' := [(2, .null), (0, .ref b), (1, .int i)]) hx hb dX6_bring_8 rfl hl (by decide) rfl (fun ls hl => ?_)
    refine lv_aload_nN hx hb dX6_bring_9 rfl (lv_at hl 0 rfl) ?_
    refine lv_ifnonnullN hx hb dX6_bring_10 ?_
    refine lv_iconst (v := (-1)) hx hb dX6_bring_13 (by decide) ?_
    exact W.iret (v := (-1)) hx hb hr (fun t ht hWm => ⟨⟨(-1), M, rfl, hres, xw_end ht hW⟩, hS.F ht⟩) hS.2.2 dX6_bring_14
  · have hres : (-1 : Int32) = xa_bri i := by unfold xa_bri; rw [if_pos (Or.inr hhi)]
    refine lv_aload_n hx hb dX6_bring_0 rfl (lv_at hl 0 rfl) ?_
    refine xg_get (κ := 16) (ci := 6) (C := RX6) (T := TX6) (N := 6) hx hb hts inX6 hown hK hW hτ (by decide) rfl rfl 0 (by decide) (hts (.fieldLink RX6 10 "HalfTickets" "now" "LHalfTickets$Ministry;") (List.mem_of_getElem? (i := 1) (by decide +kernel))) (fun _ h9 => h9) rfl dX6_bring_1 ?_
    refine lv_iload_n hx hb dX6_bring_4 rfl (lv_at hl 1 rfl) ?_
    refine xc_q (xr_V (As := [.int i]) (rest := []) (κ := 1) ⟨hx, hb, hml, hown, hts⟩ (c_X2_windowAt l O M (b + 1) (O.b1 hτ) i) (cwV 1 hts gX6_bring_X2_windowAt rfl rfl rfl (by decide +kernel) ⟨Nat.le_of_ble_eq_true rfl, Nat.le_of_ble_eq_true rfl⟩) hK hst hnw hS hW (O.b1 hτ) (by decide) rfl rfl rfl hl.1 rfl (Nat.le_of_ble_eq_true rfl) dX6_bring_5 ⟨Nat.zero_le _, Nat.zero_le _⟩) hS (fun r_6 M_4 H locs hq_5 hW hS => ?_)
    obtain ⟨hq_5a, hq_5b⟩ := hq_5
    rw [hq_5b] at hW
    rw [hq_5a]
    rw [xf_win_n _ (Or.inr hhi)]
    refine W.eq (g2 := F0 m 8 ls [.null]) rfl ?_
    refine lv_astore_nN (lv' := [(2, .null), (0, .ref b), (1, .int i)]) hx hb dX6_bring_8 rfl hl (by decide) rfl (fun ls hl => ?_)
    refine lv_aload_nN hx hb dX6_bring_9 rfl (lv_at hl 0 rfl) ?_
    refine lv_ifnonnullN hx hb dX6_bring_10 ?_
    refine lv_iconst (v := (-1)) hx hb dX6_bring_13 (by decide) ?_
    exact W.iret (v := (-1)) hx hb hr (fun t ht hWm => ⟨⟨(-1), M, rfl, hres, xw_end ht hW⟩, hS.F ht⟩) hS.2.2 dX6_bring_14
  · have hni : ¬ (nI k < 0 ∨ nI 6 ≤ nI k) := fun q => q.elim (nI_pos (by omega)) (nI_ge hk (by decide))
    refine lv_aload_n hx hb dX6_bring_0 rfl (lv_at hl 0 rfl) ?_
    refine xg_get (κ := 16) (ci := 6) (C := RX6) (T := TX6) (N := 6) hx hb hts inX6 hown hK hW hτ (by decide) rfl rfl 0 (by decide) (hts (.fieldLink RX6 10 "HalfTickets" "now" "LHalfTickets$Ministry;") (List.mem_of_getElem? (i := 1) (by decide +kernel))) (fun _ h9 => h9) rfl dX6_bring_1 ?_
    refine lv_iload_n hx hb dX6_bring_4 rfl (lv_at hl 1 rfl) ?_
    refine xc_q (xr_V (As := [.int (nI k)]) (rest := []) (κ := 1) ⟨hx, hb, hml, hown, hts⟩ (c_X2_windowAt l O M (b + 1) (O.b1 hτ) (nI k)) (cwV 1 hts gX6_bring_X2_windowAt rfl rfl rfl (by decide +kernel) ⟨Nat.le_of_ble_eq_true rfl, Nat.le_of_ble_eq_true rfl⟩) hK hst hnw hS hW (O.b1 hτ) (by decide) rfl rfl rfl hl.1 rfl (Nat.le_of_ble_eq_true rfl) dX6_bring_5 ⟨Nat.zero_le _, Nat.zero_le _⟩) hS (fun r_9 M_7 H locs hq_8 hW hS => ?_)
    obtain ⟨hq_8a, hq_8b⟩ := hq_8
    rw [hq_8b] at hW
    rw [hq_8a]
    rw [xf_win_s _ hk]
    refine W.eq (g2 := F0 m 8 ls [.ref ((b + 1) + 5 * k + 4)]) rfl ?_
    refine lv_astore_n (lv' := [(2, .ref ((b + 1) + 5 * k + 4)), (0, .ref b), (1, .int (nI k))]) hx hb dX6_bring_8 rfl hl (by decide) rfl (fun ls hl => ?_)
    refine lv_aload_n hx hb dX6_bring_9 rfl (lv_at hl 0 rfl) ?_
    refine lv_ifnonnull (tgt := 15) hx hb dX6_bring_10 (by decide) ?_
    refine lv_aload_n hx hb dX6_bring_15 rfl (lv_at hl 1 rfl) ?_
    refine xg_get (κ := 16) (ci := 6) (C := RX6) (T := TX6) (N := 6) hx hb hts inX6 hown hK hW hτ (by decide) rfl rfl 2 (by decide) (hts (.fieldLink RX6 22 "HalfTickets" "history" "LHalfTickets$History;") (List.mem_of_getElem? (i := 2) (by decide +kernel))) (fun _ h9 => h9) rfl dX6_bring_16 ?_
    refine lv_aload_n hx hb dX6_bring_19 rfl (lv_at hl 1 rfl) ?_
    refine xg_get (κ := 16) (ci := 6) (C := RX6) (T := TX6) (N := 6) hx hb hts inX6 hown hK hW hτ (by decide) rfl rfl 0 (by decide) (hts (.fieldLink RX6 10 "HalfTickets" "now" "LHalfTickets$Ministry;") (List.mem_of_getElem? (i := 1) (by decide +kernel))) (fun _ h9 => h9) rfl dX6_bring_20 ?_
    refine xc_v (xr_V (As := [.ref (b + 1)]) (rest := []) (κ := 10) ⟨hx, hb, hml, hown, hts⟩ (c_X0_remember l O M (b + 165) (b + 1) (O.b3 hτ) (O.b1 hτ) (by omega) (n := 0) (by omega) hF.2.2.2.2.2.2.1.1 (xp_H hF.1)) (cwV 1 hts gX6_bring_X0_remember rfl rfl rfl (by decide +kernel) ⟨Nat.le_of_ble_eq_true rfl, Nat.le_of_ble_eq_true rfl⟩) hK hst hnw hS hW (O.b3 hτ) (by decide) rfl rfl rfl hl.1 rfl (Nat.le_of_ble_eq_true rfl) dX6_bring_23 ⟨Nat.zero_le _, Nat.zero_le _⟩) hS (fun M_10 H locs hq_11 hW hS => ?_)
    have hu : ∀ x, x < b + 165 ∨ b + 659 ≤ x → M_10 x = M x := fun x hx => hq_11.2.1 x (by omega)
    refine lv_iconst (v := (nI 0)) hx hb dX6_bring_26 (by decide) ?_
    refine lv_aload_n hx hb dX6_bring_27 rfl (lv_at hl 1 rfl) ?_
    refine xg_get (κ := 16) (ci := 6) (C := RX6) (T := TX6) (N := 6) hx hb hts inX6 hown hK hW hτ (by decide) rfl rfl 0 (by decide) (hts (.fieldLink RX6 10 "HalfTickets" "now" "LHalfTickets$Ministry;") (List.mem_of_getElem? (i := 1) (by decide +kernel))) (fun _ h9 => h9) rfl dX6_bring_28 ?_
    refine xg_get (κ := 1) (ci := 2) (C := RX2) (T := TX2) (N := 7) hx hb hts inX2 hown hK hW (O.b1 hτ) (by decide) rfl rfl 0 (by decide) (hts (.fieldLink RX6 55 "HalfTickets$Ministry" "settings" "[I") (List.mem_of_getElem? (i := 3) (by decide +kernel))) (fun _ h9 => h9) rfl dX6_bring_31 ?_
    refine lv_iconst (v := (nI 1)) hx hb dX6_bring_34 (by decide) ?_
    refine xg_iald (κ := 103) (n := 3) hx hb hK hW (O.m1 (O.b1 hτ)) (by decide) rfl 1 rfl (by decide) (by decide) dX6_bring_35 ?_
    refine lv_aload_n hx hb dX6_bring_36 rfl (lv_at hl 0 rfl) ?_
    refine xg_get (κ := 5) (ci := 5) (C := RX5) (T := TX5) (N := 7) hx hb hts inX5 hown hK hW (O.w (O.b1 hτ) hk) (by decide) rfl rfl 2 (by decide) (hts (.fieldLink RX6 76 "HalfTickets$Window" "halves" "I") (List.mem_of_getElem? (i := 4) (by decide +kernel))) (fun _ h9 => h9) rfl dX6_bring_37 ?_
    refine lv_isub hx hb dX6_bring_40 ?_
    refine va_mmax hx hb (by rw [hml]; exact hl.1.symm) hown (hts (.methodLink RX6 79 Lib.Math.max.name) (List.mem_of_getElem? (i := 5) (by decide +kernel))) (hts (.static Lib.Math.max.name) (List.mem_of_getElem? (i := 6) (by decide +kernel))) (hts (.initialized "java/lang/Math") (List.mem_of_getElem? (i := 7) (by decide +kernel))) (hts (.code Lib.Math.max.name Lib.Math.max.code 2 (some .int)) (List.mem_of_getElem? (i := 8) (by decide +kernel))) (Nat.le_of_ble_eq_true rfl) (Nat.le_of_ble_eq_true rfl) (Nat.zero_le _) (Nat.zero_le _) dX6_bring_41 ?_
    have hz : (if (nI 0) < ((M_10 (b + 2) 1) - (M_10 ((b + 1) + 5 * k + 4) 2)) then ((M_10 (b + 2) 1) - (M_10 ((b + 1) + 5 * k + 4) 2)) else (nI 0)) = nI 0 := by rw [hu (b + 2) (by omega), hu (b + 1 + 5 * k + 4) (by omega), hF.2.2.2.1 1 (by decide), (hF.2.2.2.2.1 k hk).2.2.1]; decide
    rw [hz]
    refine lv_istore_n (lv' := [(3, .int (nI 0)), (2, .ref ((b + 1) + 5 * k + 4)), (0, .ref b), (1, .int (nI k))]) hx hb dX6_bring_44 rfl hl (by decide) rfl (fun ls hl => ?_)
    refine lv_aload_n hx hb dX6_bring_45 rfl (lv_at hl 1 rfl) ?_
    refine lv_dup hx hb dX6_bring_46 rfl ?_
    refine xg_get (κ := 5) (ci := 5) (C := RX5) (T := TX5) (N := 7) hx hb hts inX5 hown hK hW (O.w (O.b1 hτ) hk) (by decide) rfl rfl 2 (by decide) (hts (.fieldLink RX6 76 "HalfTickets$Window" "halves" "I") (List.mem_of_getElem? (i := 4) (by decide +kernel))) (fun _ h9 => h9) rfl dX6_bring_47 ?_
    refine lv_iload_n hx hb dX6_bring_50 rfl (lv_at hl 0 rfl) ?_
    refine lv_iadd hx hb dX6_bring_51 ?_
    refine xg_put (κ := 5) (ci := 5) (C := RX5) (T := TX5) (N := 7) hx hb hts inX5 tyX5 tyX5_ok nmX5 hown hK O hW hS (O.w (O.b1 hτ) hk) (by decide) rfl rfl 2 (by decide) (v := ((M_10 ((b + 1) + 5 * k + 4) 2) + (nI 0))) rfl (xw_okp hW (O.w (O.b1 hτ) hk) (by decide)) (hts (.fieldLink RX6 76 "HalfTickets$Window" "halves" "I") (List.mem_of_getElem? (i := 4) (by decide +kernel))) (fun _ h9 => h9) rfl (ty := .int) (by decide +kernel) rfl rfl (Nat.le_of_ble_eq_true rfl) dX6_bring_52 (fun H locs hW hS => ?_)
    obtain ⟨M_13, eM_13⟩ : ∃ M9, M9 = xu_p M_10 ((b + 1) + 5 * k + 4) 2 ((M_10 ((b + 1) + 5 * k + 4) 2) + (nI 0)) := ⟨_, rfl⟩
    rw [← eM_13] at hW
    refine lv_aload_n hx hb dX6_bring_55 rfl (lv_at hl 2 rfl) ?_
    refine xg_get (κ := 16) (ci := 6) (C := RX6) (T := TX6) (N := 6) hx hb hts inX6 hown hK hW hτ (by decide) rfl rfl 0 (by decide) (hts (.fieldLink RX6 10 "HalfTickets" "now" "LHalfTickets$Ministry;") (List.mem_of_getElem? (i := 1) (by decide +kernel))) (fun _ h9 => h9) rfl dX6_bring_56 ?_
    refine lv_dup hx hb dX6_bring_59 rfl ?_
    refine xg_get (κ := 1) (ci := 2) (C := RX2) (T := TX2) (N := 7) hx hb hts inX2 hown hK hW (O.b1 hτ) (by decide) rfl rfl 6 (by decide) (hts (.fieldLink RX6 85 "HalfTickets$Ministry" "brought" "I") (List.mem_of_getElem? (i := 9) (by decide +kernel))) (fun _ h9 => h9) rfl dX6_bring_60 ?_
    refine lv_iload_n hx hb dX6_bring_63 rfl (lv_at hl 0 rfl) ?_
    refine lv_iadd hx hb dX6_bring_64 ?_
    refine xg_put (κ := 1) (ci := 2) (C := RX2) (T := TX2) (N := 7) hx hb hts inX2 tyX2 tyX2_ok nmX2 hown hK O hW hS (O.b1 hτ) (by decide) rfl rfl 6 (by decide) (v := ((M_13 (b + 1) 6) + (nI 0))) rfl trivial (hts (.fieldLink RX6 85 "HalfTickets$Ministry" "brought" "I") (List.mem_of_getElem? (i := 9) (by decide +kernel))) (fun _ h9 => h9) rfl (ty := .int) (by decide +kernel) rfl rfl (Nat.le_of_ble_eq_true rfl) dX6_bring_65 (fun H locs hW hS => ?_)
    obtain ⟨M_14, eM_14⟩ : ∃ M9, M9 = xu_p M_13 (b + 1) 6 ((M_13 (b + 1) 6) + (nI 0)) := ⟨_, rfl⟩
    rw [← eM_14] at hW
    refine lv_iload_n hx hb dX6_bring_68 rfl (lv_at hl 0 rfl) ?_
    exact W.iret (v := (nI 0)) hx hb hr (fun t ht hWm => ⟨⟨(nI 0), M_14, rfl, (by unfold xa_bri; rw [if_neg hni]), xw_end ht hW⟩, hS.F ht⟩) hS.2.2 dX6_bring_69

set_option maxHeartbeats 4000000 in
set_option maxRecDepth 100000 in
/-- leave on a new object -/
theorem cp_leave (l : Launch) {G : va_G} {g : Nat → ClassId} {t0 τ : Nat → Nat} {A : Nat → Prop} (O : xk_O τ A) (M : xm_T) (b : Nat) (hτ : τ b = 16) (hF : xp_F M b) (i : Int32) : Met l yX6_leave wsX6_leave ({ frames := 5, cells := 0, slots := 0, locals := 160 }) (va_Pc [.ref b, .int i] (xS_t G g t0 τ A M)) (va_Qi (fun r M' => r = -1) (fun M' t => xw_D G g τ M' t.heap) A) 0 0 A := by
  refine Met.ofW (cc := cX6_leave) (maxL := 3) (ret := (some .int)) (by decide) rfl ?_
  intro p e s m args below meth c s₁ B hml hv
  obtain ⟨rfl, hW, hK, hst, hnw⟩ := hv
  have hx := B.exec
  have hb := B.bytes
  have hr := B.returns
  have hts := atoms_spec (ws := wsX6_leave) B.pre
  have hown : s.vm.findClass RX6 = some m.cls := findClass_of_methodNamed B.named
  have hlocks := B.notSynchronized
  have hS : va_S A s.heap s.heap [] := va_S.rf
  have inX2 : ∀ w ∈ u_ws RX2 TX2 7, w ∈ wsX6_leave := by decide +kernel
  have inX4 : ∀ w ∈ u_ws RX4 TX4 12, w ∈ wsX6_leave := by decide +kernel
  have inX6 : ∀ w ∈ u_ws RX6 TX6 6, w ∈ wsX6_leave := by decide +kernel
  have hl := lv_entry ([.ref b, .int i]) (n := 3) (Nat.le_of_ble_eq_true rfl)
  rw [lg_entry_eq]
  generalize (lg_sl ([.ref b, .int i]) ++ List.replicate (3 - (lg_sl ([.ref b, .int i])).length) Slot.unset).toArray = ls at hl ⊢
  have hl : lv_has ls 3 [(0, .ref b), (1, .int i)] := hl
  refine lv_aload_n hx hb dX6_leave_0 rfl (lv_at hl 0 rfl) ?_
  refine xg_get (κ := 16) (ci := 6) (C := RX6) (T := TX6) (N := 6) hx hb hts inX6 hown hK hW hτ (by decide) rfl rfl 0 (by decide) (hts (.fieldLink RX6 10 "HalfTickets" "now" "LHalfTickets$Ministry;") (List.mem_of_getElem? (i := 1) (by decide +kernel))) (fun _ h9 => h9) rfl dX6_leave_1 ?_
  refine lv_iload_n hx hb dX6_leave_4 rfl (lv_at hl 1 rfl) ?_
  refine xc_q (xr_V (As := [.int i]) (rest := []) (κ := 1) ⟨hx, hb, hml, hown, hts⟩ (c_X2_personAt l O M (b + 1) (O.b1 hτ) i) (cwV 1 hts gX6_leave_X2_personAt rfl rfl rfl (by decide +kernel) ⟨Nat.le_of_ble_eq_true rfl, Nat.le_of_ble_eq_true rfl⟩) hK hst hnw hS hW (O.b1 hτ) (by decide) rfl rfl rfl hl.1 rfl (Nat.le_of_ble_eq_true rfl) dX6_leave_5 ⟨Nat.zero_le _, Nat.zero_le _⟩) hS (fun r_3 M_1 H locs hq_2 hW hS => ?_)
  obtain ⟨hq_2a, hq_2b⟩ := hq_2
  rw [hq_2b] at hW
  rw [hq_2a]
  rw [xf_per_0 hF.2.2.1.1]
  refine W.eq (g2 := F0 m 8 ls [.null]) rfl ?_
  refine lv_astore_nN (lv' := [(2, .null), (0, .ref b), (1, .int i)]) hx hb dX6_leave_8 rfl hl (by decide) rfl (fun ls hl => ?_)
  refine lv_aload_nN hx hb dX6_leave_9 rfl (lv_at hl 0 rfl) ?_
  refine lv_ifnonnullN hx hb dX6_leave_10 ?_
  refine lv_iconst (v := (-1)) hx hb dX6_leave_13 (by decide) ?_
  exact W.iret (v := (-1)) hx hb hr (fun t ht hWm => ⟨⟨(-1), M, rfl, rfl, xw_end ht hW⟩, hS.F ht⟩) hS.2.2 dX6_leave_14

set_option maxHeartbeats 4000000 in
set_option maxRecDepth 100000 in
/-- person on a new object -/
theorem cp_person (l : Launch) {G : va_G} {g : Nat → ClassId} {t0 τ : Nat → Nat} {A : Nat → Prop} (O : xk_O τ A) (M : xm_T) (b : Nat) (hτ : τ b = 16) (hF : xp_F M b) (i v : Int32) : Met l yX6_person wsX6_person ({ frames := 5, cells := 0, slots := 0, locals := 160 }) (va_Pc [.ref b, .int i, .int v] (xS_t G g t0 τ A M)) (va_Qi (fun r M' => r = -1) (fun M' t => xw_D G g τ M' t.heap) A) 0 0 A := by
  refine Met.ofW (cc := cX6_person) (maxL := 4) (ret := (some .int)) (by decide) rfl ?_
  intro p e s m args below meth c s₁ B hml hv
  obtain ⟨rfl, hW, hK, hst, hnw⟩ := hv
  have hx := B.exec
  have hb := B.bytes
  have hr := B.returns
  have hts := atoms_spec (ws := wsX6_person) B.pre
  have hown : s.vm.findClass RX6 = some m.cls := findClass_of_methodNamed B.named
  have hlocks := B.notSynchronized
  have hS : va_S A s.heap s.heap [] := va_S.rf
  have inX4 : ∀ w ∈ u_ws RX4 TX4 12, w ∈ wsX6_person := by decide +kernel
  have inX6 : ∀ w ∈ u_ws RX6 TX6 6, w ∈ wsX6_person := by decide +kernel
  have hl := lv_entry ([.ref b, .int i, .int v]) (n := 4) (Nat.le_of_ble_eq_true rfl)
  rw [lg_entry_eq]
  generalize (lg_sl ([.ref b, .int i, .int v]) ++ List.replicate (4 - (lg_sl ([.ref b, .int i, .int v])).length) Slot.unset).toArray = ls at hl ⊢
  have hl : lv_has ls 4 [(0, .ref b), (1, .int i), (2, .int v)] := hl
  refine lv_aload_n hx hb dX6_person_0 rfl (lv_at hl 0 rfl) ?_
  refine xg_get (κ := 16) (ci := 6) (C := RX6) (T := TX6) (N := 6) hx hb hts inX6 hown hK hW hτ (by decide) rfl rfl 0 (by decide) (hts (.fieldLink RX6 10 "HalfTickets" "now" "LHalfTickets$Ministry;") (List.mem_of_getElem? (i := 1) (by decide +kernel))) (fun _ h9 => h9) rfl dX6_person_1 ?_
  refine lv_iload_n hx hb dX6_person_4 rfl (lv_at hl 1 rfl) ?_
  refine xc_q (xr_V (As := [.int i]) (rest := []) (κ := 1) ⟨hx, hb, hml, hown, hts⟩ (c_X2_personAt l O M (b + 1) (O.b1 hτ) i) (cwV 1 hts gX6_person_X2_personAt rfl rfl rfl (by decide +kernel) ⟨Nat.le_of_ble_eq_true rfl, Nat.le_of_ble_eq_true rfl⟩) hK hst hnw hS hW (O.b1 hτ) (by decide) rfl rfl rfl hl.1 rfl (Nat.le_of_ble_eq_true rfl) dX6_person_5 ⟨Nat.zero_le _, Nat.zero_le _⟩) hS (fun r_3 M_1 H locs hq_2 hW hS => ?_)
  obtain ⟨hq_2a, hq_2b⟩ := hq_2
  rw [hq_2b] at hW
  rw [hq_2a]
  rw [xf_per_0 hF.2.2.1.1]
  refine W.eq (g2 := F0 m 8 ls [.null]) rfl ?_
  refine lv_astore_nN (lv' := [(3, .null), (0, .ref b), (1, .int i), (2, .int v)]) hx hb dX6_person_8 rfl hl (by decide) rfl (fun ls hl => ?_)
  refine lv_aload_nN hx hb dX6_person_9 rfl (lv_at hl 0 rfl) ?_
  refine lv_ifnonnullN hx hb dX6_person_10 ?_
  refine lv_iconst (v := (-1)) hx hb dX6_person_13 (by decide) ?_
  exact W.iret (v := (-1)) hx hb hr (fun t ht hWm => ⟨⟨(-1), M, rfl, rfl, xw_end ht hW⟩, hS.F ht⟩) hS.2.2 dX6_person_14

set_option maxHeartbeats 4000000 in
set_option maxRecDepth 100000 in
/-- untilDone on a new object -/
theorem cp_untilDone (l : Launch) {G : va_G} {g : Nat → ClassId} {t0 τ : Nat → Nat} {A : Nat → Prop} (O : xk_O τ A) (M : xm_T) (b : Nat) (hτ : τ b = 16) (hF : xp_F M b) (i : Int32) : Met l yX6_untilDone wsX6_untilDone ({ frames := 5, cells := 0, slots := 0, locals := 160 }) (va_Pc [.ref b, .int i] (xS_t G g t0 τ A M)) (va_Qi (fun r M' => r = -1) (fun M' t => xw_D G g τ M' t.heap) A) 0 0 A := by
  refine Met.ofW (cc := cX6_untilDone) (maxL := 5) (ret := (some .int)) (by decide) rfl ?_
  intro p e s m args below meth c s₁ B hml hv
  obtain ⟨rfl, hW, hK, hst, hnw⟩ := hv
  have hx := B.exec
  have hb := B.bytes
  have hr := B.returns
  have hts := atoms_spec (ws := wsX6_untilDone) B.pre
  have hown : s.vm.findClass RX6 = some m.cls := findClass_of_methodNamed B.named
  have hlocks := B.notSynchronized
  have hS : va_S A s.heap s.heap [] := va_S.rf
  have inX4 : ∀ w ∈ u_ws RX4 TX4 12, w ∈ wsX6_untilDone := by decide +kernel
  have inX6 : ∀ w ∈ u_ws RX6 TX6 6, w ∈ wsX6_untilDone := by decide +kernel
  have hl := lv_entry ([.ref b, .int i]) (n := 5) (Nat.le_of_ble_eq_true rfl)
  rw [lg_entry_eq]
  generalize (lg_sl ([.ref b, .int i]) ++ List.replicate (5 - (lg_sl ([.ref b, .int i])).length) Slot.unset).toArray = ls at hl ⊢
  have hl : lv_has ls 5 [(0, .ref b), (1, .int i)] := hl
  refine lv_aload_n hx hb dX6_untilDone_0 rfl (lv_at hl 0 rfl) ?_
  refine xg_get (κ := 16) (ci := 6) (C := RX6) (T := TX6) (N := 6) hx hb hts inX6 hown hK hW hτ (by decide) rfl rfl 0 (by decide) (hts (.fieldLink RX6 10 "HalfTickets" "now" "LHalfTickets$Ministry;") (List.mem_of_getElem? (i := 1) (by decide +kernel))) (fun _ h9 => h9) rfl dX6_untilDone_1 ?_
  refine lv_iload_n hx hb dX6_untilDone_4 rfl (lv_at hl 1 rfl) ?_
  refine xc_q (xr_V (As := [.int i]) (rest := []) (κ := 1) ⟨hx, hb, hml, hown, hts⟩ (c_X2_personAt l O M (b + 1) (O.b1 hτ) i) (cwV 1 hts gX6_untilDone_X2_personAt rfl rfl rfl (by decide +kernel) ⟨Nat.le_of_ble_eq_true rfl, Nat.le_of_ble_eq_true rfl⟩) hK hst hnw hS hW (O.b1 hτ) (by decide) rfl rfl rfl hl.1 rfl (Nat.le_of_ble_eq_true rfl) dX6_untilDone_5 ⟨Nat.zero_le _, Nat.zero_le _⟩) hS (fun r_3 M_1 H locs hq_2 hW hS => ?_)
  obtain ⟨hq_2a, hq_2b⟩ := hq_2
  rw [hq_2b] at hW
  rw [hq_2a]
  rw [xf_per_0 hF.2.2.1.1]
  refine W.eq (g2 := F0 m 8 ls [.null]) rfl ?_
  refine lv_astore_nN (lv' := [(2, .null), (0, .ref b), (1, .int i)]) hx hb dX6_untilDone_8 rfl hl (by decide) rfl (fun ls hl => ?_)
  refine lv_aload_nN hx hb dX6_untilDone_9 rfl (lv_at hl 0 rfl) ?_
  refine lv_ifnonnullN hx hb dX6_untilDone_10 ?_
  refine lv_iconst (v := (-1)) hx hb dX6_untilDone_13 (by decide) ?_
  exact W.iret (v := (-1)) hx hb hr (fun t ht hWm => ⟨⟨(-1), M, rfl, rfl, xw_end ht hW⟩, hS.F ht⟩) hS.2.2 dX6_untilDone_14

set_option maxHeartbeats 4000000 in
set_option maxRecDepth 100000 in
/-- pass on a new object -/
theorem cp_pass (l : Launch) {G : va_G} {g : Nat → ClassId} {t0 τ : Nat → Nat} {A : Nat → Prop} (O : xk_O τ A) (M : xm_T) (b : Nat) (hτ : τ b = 16) (hF : xp_F M b) (t : Int32) : Met l yX6_pass wsX6_pass ({ frames := 5, cells := 0, slots := 0, locals := 160 }) (va_Pc [.ref b, .int t] (xS_t G g t0 τ A M)) (va_Qi (fun r M' => r = xa_pas t) (fun M' t => xw_D G g τ M' t.heap) A) 0 0 A := by
  refine Met.ofW (cc := cX6_pass) (maxL := 4) (ret := (some .int)) (by decide) rfl ?_
  intro p e s m args below meth c s₁ B hml hv
  obtain ⟨rfl, hW, hK, hst, hnw⟩ := hv
  have hx := B.exec
  have hb := B.bytes
  have hr := B.returns
  have hts := atoms_spec (ws := wsX6_pass) B.pre
  have hown : s.vm.findClass RX6 = some m.cls := findClass_of_methodNamed B.named
  have hlocks := B.notSynchronized
  have hS : va_S A s.heap s.heap [] := va_S.rf
  have inX2 : ∀ w ∈ u_ws RX2 TX2 7, w ∈ wsX6_pass := by decide +kernel
  have inX6 : ∀ w ∈ u_ws RX6 TX6 6, w ∈ wsX6_pass := by decide +kernel
  have hl := lv_entry ([.ref b, .int t]) (n := 4) (Nat.le_of_ble_eq_true rfl)
  rw [lg_entry_eq]
  generalize (lg_sl ([.ref b, .int t]) ++ List.replicate (4 - (lg_sl ([.ref b, .int t])).length) Slot.unset).toArray = ls at hl ⊢
  have hl : lv_has ls 4 [(0, .ref b), (1, .int t)] := hl
  refine lv_iload_n hx hb dX6_pass_0 rfl (lv_at hl 1 rfl) ?_
  refine lv_iconst (v := (nI 1)) hx hb dX6_pass_1 (by decide) ?_
  refine lv_icmp_lt (tgt := 11) hx hb dX6_pass_2 (by decide) (fun c_1 => ?_) (fun c_1 => ?_)
  · have hres : (-2 : Int32) = xa_pas t := by unfold xa_pas; rw [if_pos c_1]
    refine lv_bipush (v := (-2)) hx hb dX6_pass_11 (by decide) ?_
    exact W.iret (v := (-2)) hx hb hr (fun t ht hWm => ⟨⟨(-2), M, rfl, hres, xw_end ht hW⟩, hS.F ht⟩) hS.2.2 dX6_pass_13
  · refine lv_iload_n hx hb dX6_pass_5 rfl (lv_at hl 1 rfl) ?_
    refine lv_bipush (v := (nI 99)) hx hb dX6_pass_6 (by decide) ?_
    refine lv_icmp_le (tgt := 14) hx hb dX6_pass_8 (by decide) (fun c_2 => ?_) (fun c_2 => ?_)
    · obtain ⟨k, hk, rfl⟩ := xi_ix2 (xi_1 c_1) c_2 (by decide)
      refine lv_aload_n hx hb dX6_pass_14 rfl (lv_at hl 0 rfl) ?_
      refine xg_get (κ := 16) (ci := 6) (C := RX6) (T := TX6) (N := 6) hx hb hts inX6 hown hK hW hτ (by decide) rfl rfl 0 (by decide) (hts (.fieldLink RX6 10 "HalfTickets" "now" "LHalfTickets$Ministry;") (List.mem_of_getElem? (i := 1) (by decide +kernel))) (fun _ h9 => h9) rfl dX6_pass_15 ?_
      refine xg_get (κ := 1) (ci := 2) (C := RX2) (T := TX2) (N := 7) hx hb hts inX2 hown hK hW (O.b1 hτ) (by decide) rfl rfl 4 (by decide) (hts (.fieldLink RX6 113 "HalfTickets$Ministry" "ticks" "I") (List.mem_of_getElem? (i := 2) (by decide +kernel))) (fun _ h9 => h9) rfl dX6_pass_18 ?_
      refine lv_iload_n hx hb dX6_pass_21 rfl (lv_at hl 1 rfl) ?_
      refine lv_iadd hx hb dX6_pass_22 ?_
      refine lv_sipush (v := (nI 9999)) hx hb dX6_pass_23 (by decide) ?_
      refine lv_icmp_le (tgt := 32) hx hb dX6_pass_26 (by decide) (fun c_3 => ?_) (fun c_3 => ?_)
      · refine lv_aload_n hx hb dX6_pass_32 rfl (lv_at hl 0 rfl) ?_
        refine xg_get (κ := 16) (ci := 6) (C := RX6) (T := TX6) (N := 6) hx hb hts inX6 hown hK hW hτ (by decide) rfl rfl 2 (by decide) (hts (.fieldLink RX6 22 "HalfTickets" "history" "LHalfTickets$History;") (List.mem_of_getElem? (i := 3) (by decide +kernel))) (fun _ h9 => h9) rfl dX6_pass_33 ?_
        refine lv_aload_n hx hb dX6_pass_36 rfl (lv_at hl 0 rfl) ?_
        refine xg_get (κ := 16) (ci := 6) (C := RX6) (T := TX6) (N := 6) hx hb hts inX6 hown hK hW hτ (by decide) rfl rfl 0 (by decide) (hts (.fieldLink RX6 10 "HalfTickets" "now" "LHalfTickets$Ministry;") (List.mem_of_getElem? (i := 1) (by decide +kernel))) (fun _ h9 => h9) rfl dX6_pass_37 ?_
        refine xc_v (xr_V (As := [.ref (b + 1)]) (rest := []) (κ := 10) ⟨hx, hb, hml, hown, hts⟩ (c_X0_remember l O M (b + 165) (b + 1) (O.b3 hτ) (O.b1 hτ) (by omega) (n := 0) (by omega) hF.2.2.2.2.2.2.1.1 (xp_H hF.1)) (cwV 1 hts gX6_pass_X0_remember rfl rfl rfl (by decide +kernel) ⟨Nat.le_of_ble_eq_true rfl, Nat.le_of_ble_eq_true rfl⟩) hK hst hnw hS hW (O.b3 hτ) (by decide) rfl rfl rfl hl.1 rfl (Nat.le_of_ble_eq_true rfl) dX6_pass_40 ⟨Nat.zero_le _, Nat.zero_le _⟩) hS (fun M_4 H locs hq_5 hW hS => ?_)
        have hu : ∀ x, x < b + 165 ∨ b + 659 ≤ x → M_4 x = M x := fun x hx => hq_5.2.1 x (by omega)
        have hE1 : xe_E M_4 (b + 1) := xe_mv (fun x h1 h2 => hu x (by omega)) hF.2.1
        refine lv_aload_n hx hb dX6_pass_43 rfl (lv_at hl 0 rfl) ?_
        refine xg_get (κ := 16) (ci := 6) (C := RX6) (T := TX6) (N := 6) hx hb hts inX6 hown hK hW hτ (by decide) rfl rfl 0 (by decide) (hts (.fieldLink RX6 10 "HalfTickets" "now" "LHalfTickets$Ministry;") (List.mem_of_getElem? (i := 1) (by decide +kernel))) (fun _ h9 => h9) rfl dX6_pass_44 ?_
        refine lv_iconst (v := (nI 2)) hx hb dX6_pass_47 (by decide) ?_
        refine xc_i (xr_V (As := [.int (nI 2)]) (rest := []) (κ := 1) ⟨hx, hb, hml, hown, hts⟩ (c_X2_peopleWho l O M_4 (b + 1) (O.b1 hτ) (nI 2)) (cwV 1 hts gX6_pass_X2_peopleWho rfl rfl rfl (by decide +kernel) ⟨Nat.le_of_ble_eq_true rfl, Nat.le_of_ble_eq_true rfl⟩) hK hst hnw hS hW (O.b1 hτ) (by decide) rfl rfl rfl hl.1 rfl (Nat.le_of_ble_eq_true rfl) dX6_pass_48 ⟨Nat.zero_le _, Nat.zero_le _⟩) hS (fun r_9 M_7 H locs hq_8 hW hS => ?_)
        obtain ⟨hq_8a, hq_8b⟩ := hq_8
        rw [hq_8b] at hW
        rw [hq_8a]
        rw [xe_pw hE1 (by decide)]
        refine lv_istore_n (lv' := [(2, .int (nI 0)), (0, .ref b), (1, .int (nI k))]) hx hb dX6_pass_51 rfl hl (by decide) rfl (fun ls hl => ?_)
        refine lv_iconst (v := (nI 0)) hx hb dX6_pass_52 (by decide) ?_
        refine lv_istore_n (lv' := [(3, .int (nI 0)), (2, .int (nI 0)), (0, .ref b), (1, .int (nI k))]) hx hb dX6_pass_53 rfl hl (by decide) rfl (fun ls hl => ?_)
        refine xl_up (σ := xm_T) k (fun kk zz H locs ls => xw_D G g τ zz H ∧ va_S A s.heap H locs ∧ lv_has ls 4 [(3, .int (nI kk)), (2, .int (nI 0)), (0, .ref b), (1, .int (nI k))] ∧ xe_E zz (b + 1)) (fun z54 H locs ls hI => ?_) (fun k54 z54 H locs ls hk54 hI ih54 => ?_) (k0 := 0) (z0 := M_4) (Nat.zero_le _) ⟨hW, hS, lv_sub hl [0, 1, 2, 3] rfl, hE1⟩
        · obtain ⟨hW, hS, hl, hE54⟩ := hI
          refine lv_iload_n hx hb dX6_pass_54 rfl (lv_at hl 0 rfl) ?_
          refine lv_iload_n hx hb dX6_pass_55 rfl (lv_at hl 3 rfl) ?_
          refine lv_icmp_ge (tgt := 72) hx hb dX6_pass_56 (by decide) (fun c_10 => ?_) (fun c_10 => ?_)
          · refine lv_aload_n hx hb dX6_pass_72 rfl (lv_at hl 2 rfl) ?_
            refine xg_get (κ := 16) (ci := 6) (C := RX6) (T := TX6) (N := 6) hx hb hts inX6 hown hK hW hτ (by decide) rfl rfl 0 (by decide) (hts (.fieldLink RX6 10 "HalfTickets" "now" "LHalfTickets$Ministry;") (List.mem_of_getElem? (i := 1) (by decide +kernel))) (fun _ h9 => h9) rfl dX6_pass_73 ?_
            refine lv_iconst (v := (nI 2)) hx hb dX6_pass_76 (by decide) ?_
            refine xc_i (xr_V (As := [.int (nI 2)]) (rest := []) (κ := 1) ⟨hx, hb, hml, hown, hts⟩ (c_X2_peopleWho l O z54 (b + 1) (O.b1 hτ) (nI 2)) (cwV 1 hts gX6_pass_X2_peopleWho rfl rfl rfl (by decide +kernel) ⟨Nat.le_of_ble_eq_true rfl, Nat.le_of_ble_eq_true rfl⟩) hK hst hnw hS hW (O.b1 hτ) (by decide) rfl rfl rfl hl.1 rfl (Nat.le_of_ble_eq_true rfl) dX6_pass_77 ⟨Nat.zero_le _, Nat.zero_le _⟩) hS (fun r_13 M_11 H locs hq_12 hW hS => ?_)
            obtain ⟨hq_12a, hq_12b⟩ := hq_12
            rw [hq_12b] at hW
            rw [hq_12a]
            rw [xe_pw hE54 (by decide)]
            refine lv_iload_n hx hb dX6_pass_80 rfl (lv_at hl 1 rfl) ?_
            refine lv_isub hx hb dX6_pass_81 ?_
            exact W.iret (v := ((nI 0) - (nI 0))) hx hb hr (fun t ht hWm => ⟨⟨((nI 0) - (nI 0)), z54, rfl, (by unfold xa_pas; rw [if_neg c_1, if_pos c_2]; rfl), xw_end ht hW⟩, hS.F ht⟩) hS.2.2 dX6_pass_82
          · exact absurd (nI_le (Nat.le_refl _) (by omega)) c_10
        · obtain ⟨hW, hS, hl, hE54⟩ := hI
          refine lv_iload_n hx hb dX6_pass_54 rfl (lv_at hl 0 rfl) ?_
          refine lv_iload_n hx hb dX6_pass_55 rfl (lv_at hl 3 rfl) ?_
          refine lv_icmp_ge (tgt := 72) hx hb dX6_pass_56 (by decide) (fun c_14 => ?_) (fun c_14 => ?_)
          · exact absurd c_14 (nI_ge hk54 (by omega))
          · refine lv_aload_n hx hb dX6_pass_59 rfl (lv_at hl 2 rfl) ?_
            refine xg_get (κ := 16) (ci := 6) (C := RX6) (T := TX6) (N := 6) hx hb hts inX6 hown hK hW hτ (by decide) rfl rfl 0 (by decide) (hts (.fieldLink RX6 10 "HalfTickets" "now" "LHalfTickets$Ministry;") (List.mem_of_getElem? (i := 1) (by decide +kernel))) (fun _ h9 => h9) rfl dX6_pass_60 ?_
            refine xc_v (xr_V (As := []) (rest := []) (κ := 1) ⟨hx, hb, hml, hown, hts⟩ (ce_X2_tick l O z54 (b + 1) (O.b1 hτ) hE54) (cwV 0 hts gX6_pass_X2_tick rfl rfl rfl (by decide +kernel) ⟨Nat.le_of_ble_eq_true rfl, Nat.le_of_ble_eq_true rfl⟩) hK hst hnw hS hW (O.b1 hτ) (by decide) rfl rfl rfl hl.1 rfl (Nat.le_of_ble_eq_true rfl) dX6_pass_63 ⟨Nat.zero_le _, Nat.zero_le _⟩) hS (fun M_15 H locs hq_16 hW hS => ?_)
            have hq_t := hq_16
            refine lv_iinc (v := (nI (k54 + 1))) (lv' := [(3, .int (nI (k54 + 1))), (2, .int (nI 0)), (0, .ref b), (1, .int (nI k))]) hx hb dX6_pass_66 hl (k := 0) rfl ((nI_1 k54)) (by decide) rfl (fun ls hl => ?_)
            refine lv_goto (tgt := 54) hx hb dX6_pass_69 (by decide) ?_
            exact ih54 M_15 _ _ _ ⟨hW, hS, lv_sub hl [0, 1, 2, 3] rfl, (xe_keep hq_t hE54)⟩
      · exact absurd (by rw [hF.2.2.1.2.1, nI_add]; exact nI_le (by omega) (by decide)) c_3
    · have hres : (-2 : Int32) = xa_pas t := by unfold xa_pas; rw [if_neg c_1, if_neg c_2]
      refine lv_bipush (v := (-2)) hx hb dX6_pass_11 (by decide) ?_
      exact W.iret (v := (-2)) hx hb hr (fun t ht hWm => ⟨⟨(-2), M, rfl, hres, xw_end ht hW⟩, hS.F ht⟩) hS.2.2 dX6_pass_13

set_option maxHeartbeats 4000000 in
set_option maxRecDepth 100000 in
/-- windowOf on a new object -/
theorem cp_windowOf (l : Launch) {G : va_G} {g : Nat → ClassId} {t0 τ : Nat → Nat} {A : Nat → Prop} (O : xk_O τ A) (M : xm_T) (b : Nat) (hτ : τ b = 16) (hF : xp_F M b) (i v : Int32) : Met l yX6_windowOf wsX6_windowOf ({ frames := 5, cells := 0, slots := 0, locals := 160 }) (va_Pc [.ref b, .int i, .int v] (xS_t G g t0 τ A M)) (va_Qi (fun r M' => r = xa_wof i v) (fun M' t => xw_D G g τ M' t.heap) A) 0 0 A := by
  refine Met.ofW (cc := cX6_windowOf) (maxL := 4) (ret := (some .int)) (by decide) rfl ?_
  intro p e s m args below meth c s₁ B hml hv
  obtain ⟨rfl, hW, hK, hst, hnw⟩ := hv
  have hx := B.exec
  have hb := B.bytes
  have hr := B.returns
  have hts := atoms_spec (ws := wsX6_windowOf) B.pre
  have hown : s.vm.findClass RX6 = some m.cls := findClass_of_methodNamed B.named
  have hlocks := B.notSynchronized
  have hS : va_S A s.heap s.heap [] := va_S.rf
  have inX5 : ∀ w ∈ u_ws RX5 TX5 7, w ∈ wsX6_windowOf := by decide +kernel
  have inX6 : ∀ w ∈ u_ws RX6 TX6 6, w ∈ wsX6_windowOf := by decide +kernel
  have hl := lv_entry ([.ref b, .int i, .int v]) (n := 4) (Nat.le_of_ble_eq_true rfl)
  rw [lg_entry_eq]
  generalize (lg_sl ([.ref b, .int i, .int v]) ++ List.replicate (4 - (lg_sl ([.ref b, .int i, .int v])).length) Slot.unset).toArray = ls at hl ⊢
  have hl : lv_has ls 4 [(0, .ref b), (1, .int i), (2, .int v)] := hl
  rcases pk_ix i (n := 6) (by omega) with hlo | hhi | ⟨k, hk, rfl⟩
  · have hres : (-1 : Int32) = xa_wof i v := by unfold xa_wof; rw [if_pos (Or.inl hlo)]
    refine lv_aload_n hx hb dX6_windowOf_0 rfl (lv_at hl 0 rfl) ?_
    refine xg_get (κ := 16) (ci := 6) (C := RX6) (T := TX6) (N := 6) hx hb hts inX6 hown hK hW hτ (by decide) rfl rfl 0 (by decide) (hts (.fieldLink RX6 10 "HalfTickets" "now" "LHalfTickets$Ministry;") (List.mem_of_getElem? (i := 1) (by decide +kernel))) (fun _ h9 => h9) rfl dX6_windowOf_1 ?_
    refine lv_iload_n hx hb dX6_windowOf_4 rfl (lv_at hl 1 rfl) ?_
    refine xc_q (xr_V (As := [.int i]) (rest := []) (κ := 1) ⟨hx, hb, hml, hown, hts⟩ (c_X2_windowAt l O M (b + 1) (O.b1 hτ) i) (cwV 1 hts gX6_windowOf_X2_windowAt rfl rfl rfl (by decide +kernel) ⟨Nat.le_of_ble_eq_true rfl, Nat.le_of_ble_eq_true rfl⟩) hK hst hnw hS hW (O.b1 hτ) (by decide) rfl rfl rfl hl.1 rfl (Nat.le_of_ble_eq_true rfl) dX6_windowOf_5 ⟨Nat.zero_le _, Nat.zero_le _⟩) hS (fun r_3 M_1 H locs hq_2 hW hS => ?_)
    obtain ⟨hq_2a, hq_2b⟩ := hq_2
    rw [hq_2b] at hW
    rw [hq_2a]
    rw [xf_win_n _ (Or.inl hlo)]
    refine W.eq (g2 := F0 m 8 ls [.null]) rfl ?_
    refine lv_astore_nN (lv' := [(3, .null), (0, .ref b), (1, .int i), (2, .int v)]) hx hb dX6_windowOf_8 rfl hl (by decide) rfl (fun ls hl => ?_)
    refine lv_aload_nN hx hb dX6_windowOf_9 rfl (lv_at hl 0 rfl) ?_
    refine lv_ifnonnullN hx hb dX6_windowOf_10 ?_
    refine lv_iconst (v := (-1)) hx hb dX6_windowOf_13 (by decide) ?_
    exact W.iret (v := (-1)) hx hb hr (fun t ht hWm => ⟨⟨(-1), M, rfl, hres, xw_end ht hW⟩, hS.F ht⟩) hS.2.2 dX6_windowOf_14
  · have hres : (-1 : Int32) = xa_wof i v := by unfold xa_wof; rw [if_pos (Or.inr hhi)]
    refine lv_aload_n hx hb dX6_windowOf_0 rfl (lv_at hl 0 rfl) ?_
    refine xg_get (κ := 16) (ci := 6) (C := RX6) (T := TX6) (N := 6) hx hb hts inX6 hown hK hW hτ (by decide) rfl rfl 0 (by decide) (hts (.fieldLink RX6 10 "HalfTickets" "now" "LHalfTickets$Ministry;") (List.mem_of_getElem? (i := 1) (by decide +kernel))) (fun _ h9 => h9) rfl dX6_windowOf_1 ?_
    refine lv_iload_n hx hb dX6_windowOf_4 rfl (lv_at hl 1 rfl) ?_
    refine xc_q (xr_V (As := [.int i]) (rest := []) (κ := 1) ⟨hx, hb, hml, hown, hts⟩ (c_X2_windowAt l O M (b + 1) (O.b1 hτ) i) (cwV 1 hts gX6_windowOf_X2_windowAt rfl rfl rfl (by decide +kernel) ⟨Nat.le_of_ble_eq_true rfl, Nat.le_of_ble_eq_true rfl⟩) hK hst hnw hS hW (O.b1 hτ) (by decide) rfl rfl rfl hl.1 rfl (Nat.le_of_ble_eq_true rfl) dX6_windowOf_5 ⟨Nat.zero_le _, Nat.zero_le _⟩) hS (fun r_6 M_4 H locs hq_5 hW hS => ?_)
    obtain ⟨hq_5a, hq_5b⟩ := hq_5
    rw [hq_5b] at hW
    rw [hq_5a]
    rw [xf_win_n _ (Or.inr hhi)]
    refine W.eq (g2 := F0 m 8 ls [.null]) rfl ?_
    refine lv_astore_nN (lv' := [(3, .null), (0, .ref b), (1, .int i), (2, .int v)]) hx hb dX6_windowOf_8 rfl hl (by decide) rfl (fun ls hl => ?_)
    refine lv_aload_nN hx hb dX6_windowOf_9 rfl (lv_at hl 0 rfl) ?_
    refine lv_ifnonnullN hx hb dX6_windowOf_10 ?_
    refine lv_iconst (v := (-1)) hx hb dX6_windowOf_13 (by decide) ?_
    exact W.iret (v := (-1)) hx hb hr (fun t ht hWm => ⟨⟨(-1), M, rfl, hres, xw_end ht hW⟩, hS.F ht⟩) hS.2.2 dX6_windowOf_14
  · have hni : ¬ (nI k < 0 ∨ nI 6 ≤ nI k) := fun q => q.elim (nI_pos (by omega)) (nI_ge hk (by decide))
    refine lv_aload_n hx hb dX6_windowOf_0 rfl (lv_at hl 0 rfl) ?_
    refine xg_get (κ := 16) (ci := 6) (C := RX6) (T := TX6) (N := 6) hx hb hts inX6 hown hK hW hτ (by decide) rfl rfl 0 (by decide) (hts (.fieldLink RX6 10 "HalfTickets" "now" "LHalfTickets$Ministry;") (List.mem_of_getElem? (i := 1) (by decide +kernel))) (fun _ h9 => h9) rfl dX6_windowOf_1 ?_
    refine lv_iload_n hx hb dX6_windowOf_4 rfl (lv_at hl 1 rfl) ?_
    refine xc_q (xr_V (As := [.int (nI k)]) (rest := []) (κ := 1) ⟨hx, hb, hml, hown, hts⟩ (c_X2_windowAt l O M (b + 1) (O.b1 hτ) (nI k)) (cwV 1 hts gX6_windowOf_X2_windowAt rfl rfl rfl (by decide +kernel) ⟨Nat.le_of_ble_eq_true rfl, Nat.le_of_ble_eq_true rfl⟩) hK hst hnw hS hW (O.b1 hτ) (by decide) rfl rfl rfl hl.1 rfl (Nat.le_of_ble_eq_true rfl) dX6_windowOf_5 ⟨Nat.zero_le _, Nat.zero_le _⟩) hS (fun r_9 M_7 H locs hq_8 hW hS => ?_)
    obtain ⟨hq_8a, hq_8b⟩ := hq_8
    rw [hq_8b] at hW
    rw [hq_8a]
    rw [xf_win_s _ hk]
    refine W.eq (g2 := F0 m 8 ls [.ref ((b + 1) + 5 * k + 4)]) rfl ?_
    refine lv_astore_n (lv' := [(3, .ref ((b + 1) + 5 * k + 4)), (0, .ref b), (1, .int (nI k)), (2, .int v)]) hx hb dX6_windowOf_8 rfl hl (by decide) rfl (fun ls hl => ?_)
    refine lv_aload_n hx hb dX6_windowOf_9 rfl (lv_at hl 0 rfl) ?_
    refine lv_ifnonnull (tgt := 15) hx hb dX6_windowOf_10 (by decide) ?_
    refine lv_iload_n hx hb dX6_windowOf_15 rfl (lv_at hl 3 rfl) ?_
    refine lv_if_lt (tgt := 25) hx hb dX6_windowOf_16 (by decide) (fun c_10 => ?_) (fun c_10 => ?_)
    · have hres : (-2 : Int32) = xa_wof (nI k) v := by unfold xa_wof; rw [if_neg hni, if_pos c_10]
      refine lv_bipush (v := (-2)) hx hb dX6_windowOf_25 (by decide) ?_
      exact W.iret (v := (-2)) hx hb hr (fun t ht hWm => ⟨⟨(-2), M, rfl, hres, xw_end ht hW⟩, hS.F ht⟩) hS.2.2 dX6_windowOf_27
    · refine lv_iload_n hx hb dX6_windowOf_19 rfl (lv_at hl 3 rfl) ?_
      refine lv_bipush (v := (nI 6)) hx hb dX6_windowOf_20 (by decide) ?_
      refine lv_icmp_le (tgt := 28) hx hb dX6_windowOf_22 (by decide) (fun c_11 => ?_) (fun c_11 => ?_)
      · have hq1 := c_10
        have hq2 := c_11
        obtain ⟨j, hj, rfl⟩ := xi_ix2 hq1 hq2 (by decide)
        rcases (show j = 0 ∨ j = 1 ∨ j = 2 ∨ j = 3 ∨ j = 4 ∨ j = 5 ∨ j = 6 by omega) with rfl | rfl | rfl | rfl | rfl | rfl | rfl
        · refine lv_iload_n hx hb dX6_windowOf_28 rfl (lv_at hl 3 rfl) ?_
          refine lv_tableIn (off := 39) (tgt := 68) hx hb dX6_windowOf_29 (by decide) (by decide) (by decide) (by decide) ?_
          refine lv_aload_n hx hb dX6_windowOf_68 rfl (lv_at hl 0 rfl) ?_
          refine xg_get (κ := 5) (ci := 5) (C := RX5) (T := TX5) (N := 7) hx hb hts inX5 hown hK hW (O.w (O.b1 hτ) hk) (by decide) rfl rfl 0 (by decide) (hts (.fieldLink RX6 62 "HalfTickets$Window" "isOpen" "Z") (List.mem_of_getElem? (i := 2) (by decide +kernel))) (fun _ h9 => h9) rfl dX6_windowOf_69 ?_
          refine lv_if_eq (tgt := 79) hx hb dX6_windowOf_72 (by decide) (fun c_12 => ?_) (fun c_12 => ?_)
          · exact absurd c_12 (by rw [(hF.2.2.2.2.1 k hk).1]; decide)
          · refine lv_iconst (v := (nI 1)) hx hb dX6_windowOf_75 (by decide) ?_
            refine lv_goto (tgt := 80) hx hb dX6_windowOf_76 (by decide) ?_
            exact W.iret (v := (nI 1)) hx hb hr (fun t ht hWm => ⟨⟨(nI 1), M, rfl, (show (nI 1) = xa_wof (nI k) (nI 0) by unfold xa_wof; rw [if_neg hni, if_neg hq1, if_pos hq2]; decide), xw_end ht hW⟩, hS.F ht⟩) hS.2.2 dX6_windowOf_80
        · refine lv_iload_n hx hb dX6_windowOf_28 rfl (lv_at hl 3 rfl) ?_
          refine lv_tableIn (off := 52) (tgt := 81) hx hb dX6_windowOf_29 (by decide) (by decide) (by decide) (by decide) ?_
          refine lv_aload_n hx hb dX6_windowOf_81 rfl (lv_at hl 0 rfl) ?_
          refine xg_get (κ := 5) (ci := 5) (C := RX5) (T := TX5) (N := 7) hx hb hts inX5 hown hK hW (O.w (O.b1 hτ) hk) (by decide) rfl rfl 1 (by decide) (hts (.fieldLink RX6 72 "HalfTickets$Window" "clerks" "I") (List.mem_of_getElem? (i := 3) (by decide +kernel))) (fun _ h9 => h9) rfl dX6_windowOf_82 ?_
          exact W.iret (v := (M ((b + 1) + 5 * k + 4) 1)) hx hb hr (fun t ht hWm => ⟨⟨(M ((b + 1) + 5 * k + 4) 1), M, rfl, (show (M ((b + 1) + 5 * k + 4) 1) = xa_wof (nI k) (nI 1) by rw [(hF.2.2.2.2.1 k hk).2.1]; unfold xa_wof; rw [if_neg hni, if_neg hq1, if_pos hq2]; decide), xw_end ht hW⟩, hS.F ht⟩) hS.2.2 dX6_windowOf_85
        · refine lv_iload_n hx hb dX6_windowOf_28 rfl (lv_at hl 3 rfl) ?_
          refine lv_tableIn (off := 57) (tgt := 86) hx hb dX6_windowOf_29 (by decide) (by decide) (by decide) (by decide) ?_
          refine lv_aload_n hx hb dX6_windowOf_86 rfl (lv_at hl 0 rfl) ?_
          refine xg_get (κ := 5) (ci := 5) (C := RX5) (T := TX5) (N := 7) hx hb hts inX5 hown hK hW (O.w (O.b1 hτ) hk) (by decide) rfl rfl 2 (by decide) (hts (.fieldLink RX6 76 "HalfTickets$Window" "halves" "I") (List.mem_of_getElem? (i := 4) (by decide +kernel))) (fun _ h9 => h9) rfl dX6_windowOf_87 ?_
          exact W.iret (v := (M ((b + 1) + 5 * k + 4) 2)) hx hb hr (fun t ht hWm => ⟨⟨(M ((b + 1) + 5 * k + 4) 2), M, rfl, (show (M ((b + 1) + 5 * k + 4) 2) = xa_wof (nI k) (nI 2) by rw [(hF.2.2.2.2.1 k hk).2.2.1]; unfold xa_wof; rw [if_neg hni, if_neg hq1, if_pos hq2]; decide), xw_end ht hW⟩, hS.F ht⟩) hS.2.2 dX6_windowOf_90
        · refine lv_iload_n hx hb dX6_windowOf_28 rfl (lv_at hl 3 rfl) ?_
          refine lv_tableIn (off := 62) (tgt := 91) hx hb dX6_windowOf_29 (by decide) (by decide) (by decide) (by decide) ?_
          refine lv_aload_n hx hb dX6_windowOf_91 rfl (lv_at hl 0 rfl) ?_
          refine xg_get (κ := 5) (ci := 5) (C := RX5) (T := TX5) (N := 7) hx hb hts inX5 hown hK hW (O.w (O.b1 hτ) hk) (by decide) rfl rfl 5 (by decide) (hts (.fieldLink RX6 152 "HalfTickets$Window" "queue" "LHalfTickets$Line;") (List.mem_of_getElem? (i := 5) (by decide +kernel))) (fun _ h9 => h9) rfl dX6_windowOf_92 ?_
          refine xc_i (xr_V (As := []) (rest := []) (κ := 6) ⟨hx, hb, hml, hown, hts⟩ (c_X1_length l O M ((b + 1) + 5 * k + 5) (O.q (O.w (O.b1 hτ) hk))) (cwV 0 hts gX6_windowOf_X1_length rfl rfl rfl (by decide +kernel) ⟨Nat.le_of_ble_eq_true rfl, Nat.le_of_ble_eq_true rfl⟩) hK hst hnw hS hW (O.q (O.w (O.b1 hτ) hk)) (by decide) rfl rfl rfl hl.1 rfl (Nat.le_of_ble_eq_true rfl) dX6_windowOf_95 ⟨Nat.zero_le _, Nat.zero_le _⟩) hS (fun r_15 M_13 H locs hq_14 hW hS => ?_)
          obtain ⟨hq_14a, hq_14b⟩ := hq_14
          rw [hq_14b] at hW
          rw [hq_14a]
          exact W.iret (v := (M ((b + 1) + 5 * k + 5) 1)) hx hb hr (fun t ht hWm => ⟨⟨(M ((b + 1) + 5 * k + 5) 1), M, rfl, (show (M ((b + 1) + 5 * k + 5) 1) = xa_wof (nI k) (nI 3) by rw [(hF.2.1.1 k hk).1]; unfold xa_wof; rw [if_neg hni, if_neg hq1, if_pos hq2]; decide), xw_end ht hW⟩, hS.F ht⟩) hS.2.2 dX6_windowOf_98
        · refine lv_iload_n hx hb dX6_windowOf_28 rfl (lv_at hl 3 rfl) ?_
          refine lv_tableIn (off := 70) (tgt := 99) hx hb dX6_windowOf_29 (by decide) (by decide) (by decide) (by decide) ?_
          refine lv_aload_n hx hb dX6_windowOf_99 rfl (lv_at hl 0 rfl) ?_
          refine xg_get (κ := 5) (ci := 5) (C := RX5) (T := TX5) (N := 7) hx hb hts inX5 hown hK hW (O.w (O.b1 hτ) hk) (by decide) rfl rfl 6 (by decide) (hts (.fieldLink RX6 161 "HalfTickets$Window" "serving" "LHalfTickets$Line;") (List.mem_of_getElem? (i := 6) (by decide +kernel))) (fun _ h9 => h9) rfl dX6_windowOf_100 ?_
          refine xc_i (xr_V (As := []) (rest := []) (κ := 6) ⟨hx, hb, hml, hown, hts⟩ (c_X1_length l O M ((b + 1) + 5 * k + 7) (O.r (O.w (O.b1 hτ) hk))) (cwV 0 hts gX6_windowOf_X1_length rfl rfl rfl (by decide +kernel) ⟨Nat.le_of_ble_eq_true rfl, Nat.le_of_ble_eq_true rfl⟩) hK hst hnw hS hW (O.r (O.w (O.b1 hτ) hk)) (by decide) rfl rfl rfl hl.1 rfl (Nat.le_of_ble_eq_true rfl) dX6_windowOf_103 ⟨Nat.zero_le _, Nat.zero_le _⟩) hS (fun r_18 M_16 H locs hq_17 hW hS => ?_)
          obtain ⟨hq_17a, hq_17b⟩ := hq_17
          rw [hq_17b] at hW
          rw [hq_17a]
          exact W.iret (v := (M ((b + 1) + 5 * k + 7) 1)) hx hb hr (fun t ht hWm => ⟨⟨(M ((b + 1) + 5 * k + 7) 1), M, rfl, (show (M ((b + 1) + 5 * k + 7) 1) = xa_wof (nI k) (nI 4) by rw [(hF.2.1.1 k hk).2]; unfold xa_wof; rw [if_neg hni, if_neg hq1, if_pos hq2]; decide), xw_end ht hW⟩, hS.F ht⟩) hS.2.2 dX6_windowOf_106
        · refine lv_iload_n hx hb dX6_windowOf_28 rfl (lv_at hl 3 rfl) ?_
          refine lv_tableIn (off := 78) (tgt := 107) hx hb dX6_windowOf_29 (by decide) (by decide) (by decide) (by decide) ?_
          refine lv_aload_n hx hb dX6_windowOf_107 rfl (lv_at hl 0 rfl) ?_
          refine xg_get (κ := 5) (ci := 5) (C := RX5) (T := TX5) (N := 7) hx hb hts inX5 hown hK hW (O.w (O.b1 hτ) hk) (by decide) rfl rfl 3 (by decide) (hts (.fieldLink RX6 164 "HalfTickets$Window" "servings" "I") (List.mem_of_getElem? (i := 7) (by decide +kernel))) (fun _ h9 => h9) rfl dX6_windowOf_108 ?_
          exact W.iret (v := (M ((b + 1) + 5 * k + 4) 3)) hx hb hr (fun t ht hWm => ⟨⟨(M ((b + 1) + 5 * k + 4) 3), M, rfl, (show (M ((b + 1) + 5 * k + 4) 3) = xa_wof (nI k) (nI 5) by rw [(hF.2.2.2.2.1 k hk).2.2.2.1]; unfold xa_wof; rw [if_neg hni, if_neg hq1, if_pos hq2]; decide), xw_end ht hW⟩, hS.F ht⟩) hS.2.2 dX6_windowOf_111
        · refine lv_iload_n hx hb dX6_windowOf_28 rfl (lv_at hl 3 rfl) ?_
          refine lv_tableOut (tgt := 112) hx hb dX6_windowOf_29 (by decide) (by decide) ?_
          refine lv_aload_n hx hb dX6_windowOf_112 rfl (lv_at hl 0 rfl) ?_
          refine xg_get (κ := 5) (ci := 5) (C := RX5) (T := TX5) (N := 7) hx hb hts inX5 hown hK hW (O.w (O.b1 hτ) hk) (by decide) rfl rfl 4 (by decide) (hts (.fieldLink RX6 167 "HalfTickets$Window" "sentBack" "I") (List.mem_of_getElem? (i := 8) (by decide +kernel))) (fun _ h9 => h9) rfl dX6_windowOf_113 ?_
          exact W.iret (v := (M ((b + 1) + 5 * k + 4) 4)) hx hb hr (fun t ht hWm => ⟨⟨(M ((b + 1) + 5 * k + 4) 4), M, rfl, (show (M ((b + 1) + 5 * k + 4) 4) = xa_wof (nI k) (nI 6) by rw [(hF.2.2.2.2.1 k hk).2.2.2.2]; unfold xa_wof; rw [if_neg hni, if_neg hq1, if_pos hq2]; decide), xw_end ht hW⟩, hS.F ht⟩) hS.2.2 dX6_windowOf_116
      · have hres : (-2 : Int32) = xa_wof (nI k) v := by unfold xa_wof; rw [if_neg hni, if_neg c_10, if_neg c_11]
        refine lv_bipush (v := (-2)) hx hb dX6_windowOf_25 (by decide) ?_
        exact W.iret (v := (-2)) hx hb hr (fun t ht hWm => ⟨⟨(-2), M, rfl, hres, xw_end ht hW⟩, hS.F ht⟩) hS.2.2 dX6_windowOf_27

set_option maxHeartbeats 4000000 in
set_option maxRecDepth 100000 in
/-- count on a new object -/
theorem cp_count (l : Launch) {G : va_G} {g : Nat → ClassId} {t0 τ : Nat → Nat} {A : Nat → Prop} (O : xk_O τ A) (M : xm_T) (b : Nat) (hτ : τ b = 16) (hF : xp_F M b) (v : Int32) : Met l yX6_count wsX6_count ({ frames := 5, cells := 0, slots := 0, locals := 160 }) (va_Pc [.ref b, .int v] (xS_t G g t0 τ A M)) (va_Qi (fun r M' => r = xa_cnt v) (fun M' t => xw_D G g τ M' t.heap) A) 0 0 A := by
  refine Met.ofW (cc := cX6_count) (maxL := 2) (ret := (some .int)) (by decide) rfl ?_
  intro p e s m args below meth c s₁ B hml hv
  obtain ⟨rfl, hW, hK, hst, hnw⟩ := hv
  have hx := B.exec
  have hb := B.bytes
  have hr := B.returns
  have hts := atoms_spec (ws := wsX6_count) B.pre
  have hown : s.vm.findClass RX6 = some m.cls := findClass_of_methodNamed B.named
  have hlocks := B.notSynchronized
  have hS : va_S A s.heap s.heap [] := va_S.rf
  have inX2 : ∀ w ∈ u_ws RX2 TX2 7, w ∈ wsX6_count := by decide +kernel
  have inX6 : ∀ w ∈ u_ws RX6 TX6 6, w ∈ wsX6_count := by decide +kernel
  have hl := lv_entry ([.ref b, .int v]) (n := 2) (Nat.le_of_ble_eq_true rfl)
  rw [lg_entry_eq]
  generalize (lg_sl ([.ref b, .int v]) ++ List.replicate (2 - (lg_sl ([.ref b, .int v])).length) Slot.unset).toArray = ls at hl ⊢
  have hl : lv_has ls 2 [(0, .ref b), (1, .int v)] := hl
  rcases pk_ix v (n := 17) (by omega) with hlo | hhi | ⟨k, hk, rfl⟩
  · refine lv_iload_n hx hb dX6_count_0 rfl (lv_at hl 1 rfl) ?_
    refine lv_tableOut (tgt := 210) hx hb dX6_count_1 (xi_tlo hlo rfl) (by decide) ?_
    refine lv_bipush (v := (-2)) hx hb dX6_count_210 (by decide) ?_
    exact W.iret (v := (-2)) hx hb hr (fun t ht hWm => ⟨⟨(-2), M, rfl, (by unfold xa_cnt; rw [if_pos (Or.inl hlo)]), xw_end ht hW⟩, hS.F ht⟩) hS.2.2 dX6_count_212
  · refine lv_iload_n hx hb dX6_count_0 rfl (lv_at hl 1 rfl) ?_
    refine lv_tableOut (tgt := 210) hx hb dX6_count_1 (xi_thi hhi (by decide) rfl) (by decide) ?_
    refine lv_bipush (v := (-2)) hx hb dX6_count_210 (by decide) ?_
    exact W.iret (v := (-2)) hx hb hr (fun t ht hWm => ⟨⟨(-2), M, rfl, (by unfold xa_cnt; rw [if_pos (Or.inr hhi)]), xw_end ht hW⟩, hS.F ht⟩) hS.2.2 dX6_count_212
  · rcases (show k = 0 ∨ k = 1 ∨ k = 2 ∨ k = 3 ∨ k = 4 ∨ k = 5 ∨ k = 6 ∨ k = 7 ∨ k = 8 ∨ k = 9 ∨ k = 10 ∨ k = 11 ∨ k = 12 ∨ k = 13 ∨ k = 14 ∨ k = 15 ∨ k = 16 by omega) with rfl | rfl | rfl | rfl | rfl | rfl | rfl | rfl | rfl | rfl | rfl | rfl | rfl | rfl | rfl | rfl | rfl
    · refine lv_iload_n hx hb dX6_count_0 rfl (lv_at hl 1 rfl) ?_
      refine lv_tableIn (off := 83) (tgt := 84) hx hb dX6_count_1 (by decide) (by decide) (by decide) (by decide) ?_
      refine lv_aload_n hx hb dX6_count_84 rfl (lv_at hl 0 rfl) ?_
      refine xg_get (κ := 16) (ci := 6) (C := RX6) (T := TX6) (N := 6) hx hb hts inX6 hown hK hW hτ (by decide) rfl rfl 0 (by decide) (hts (.fieldLink RX6 10 "HalfTickets" "now" "LHalfTickets$Ministry;") (List.mem_of_getElem? (i := 1) (by decide +kernel))) (fun _ h9 => h9) rfl dX6_count_85 ?_
      refine xg_get (κ := 1) (ci := 2) (C := RX2) (T := TX2) (N := 7) hx hb hts inX2 hown hK hW (O.b1 hτ) (by decide) rfl rfl 0 (by decide) (hts (.fieldLink RX6 55 "HalfTickets$Ministry" "settings" "[I") (List.mem_of_getElem? (i := 2) (by decide +kernel))) (fun _ h9 => h9) rfl dX6_count_88 ?_
      refine lv_iload_n hx hb dX6_count_91 rfl (lv_at hl 1 rfl) ?_
      refine xg_iald (κ := 103) (n := 3) hx hb hK hW (O.m1 (O.b1 hτ)) (by decide) rfl 0 rfl (by decide) (by decide) dX6_count_92 ?_
      exact W.iret (v := (M (b + 2) 0)) hx hb hr (fun t ht hWm => ⟨⟨(M (b + 2) 0), M, rfl, (show (M (b + 2) 0) = xa_cnt (nI 0) by rw [hF.2.2.2.1 0 (by decide)]; decide), xw_end ht hW⟩, hS.F ht⟩) hS.2.2 dX6_count_93
    · refine lv_iload_n hx hb dX6_count_0 rfl (lv_at hl 1 rfl) ?_
      refine lv_tableIn (off := 83) (tgt := 84) hx hb dX6_count_1 (by decide) (by decide) (by decide) (by decide) ?_
      refine lv_aload_n hx hb dX6_count_84 rfl (lv_at hl 0 rfl) ?_
      refine xg_get (κ := 16) (ci := 6) (C := RX6) (T := TX6) (N := 6) hx hb hts inX6 hown hK hW hτ (by decide) rfl rfl 0 (by decide) (hts (.fieldLink RX6 10 "HalfTickets" "now" "LHalfTickets$Ministry;") (List.mem_of_getElem? (i := 1) (by decide +kernel))) (fun _ h9 => h9) rfl dX6_count_85 ?_
      refine xg_get (κ := 1) (ci := 2) (C := RX2) (T := TX2) (N := 7) hx hb hts inX2 hown hK hW (O.b1 hτ) (by decide) rfl rfl 0 (by decide) (hts (.fieldLink RX6 55 "HalfTickets$Ministry" "settings" "[I") (List.mem_of_getElem? (i := 2) (by decide +kernel))) (fun _ h9 => h9) rfl dX6_count_88 ?_
      refine lv_iload_n hx hb dX6_count_91 rfl (lv_at hl 1 rfl) ?_
      refine xg_iald (κ := 103) (n := 3) hx hb hK hW (O.m1 (O.b1 hτ)) (by decide) rfl 1 rfl (by decide) (by decide) dX6_count_92 ?_
      exact W.iret (v := (M (b + 2) 1)) hx hb hr (fun t ht hWm => ⟨⟨(M (b + 2) 1), M, rfl, (show (M (b + 2) 1) = xa_cnt (nI 1) by rw [hF.2.2.2.1 1 (by decide)]; decide), xw_end ht hW⟩, hS.F ht⟩) hS.2.2 dX6_count_93
    · refine lv_iload_n hx hb dX6_count_0 rfl (lv_at hl 1 rfl) ?_
      refine lv_tableIn (off := 83) (tgt := 84) hx hb dX6_count_1 (by decide) (by decide) (by decide) (by decide) ?_
      refine lv_aload_n hx hb dX6_count_84 rfl (lv_at hl 0 rfl) ?_
      refine xg_get (κ := 16) (ci := 6) (C := RX6) (T := TX6) (N := 6) hx hb hts inX6 hown hK hW hτ (by decide) rfl rfl 0 (by decide) (hts (.fieldLink RX6 10 "HalfTickets" "now" "LHalfTickets$Ministry;") (List.mem_of_getElem? (i := 1) (by decide +kernel))) (fun _ h9 => h9) rfl dX6_count_85 ?_
      refine xg_get (κ := 1) (ci := 2) (C := RX2) (T := TX2) (N := 7) hx hb hts inX2 hown hK hW (O.b1 hτ) (by decide) rfl rfl 0 (by decide) (hts (.fieldLink RX6 55 "HalfTickets$Ministry" "settings" "[I") (List.mem_of_getElem? (i := 2) (by decide +kernel))) (fun _ h9 => h9) rfl dX6_count_88 ?_
      refine lv_iload_n hx hb dX6_count_91 rfl (lv_at hl 1 rfl) ?_
      refine xg_iald (κ := 103) (n := 3) hx hb hK hW (O.m1 (O.b1 hτ)) (by decide) rfl 2 rfl (by decide) (by decide) dX6_count_92 ?_
      exact W.iret (v := (M (b + 2) 2)) hx hb hr (fun t ht hWm => ⟨⟨(M (b + 2) 2), M, rfl, (show (M (b + 2) 2) = xa_cnt (nI 2) by rw [hF.2.2.2.1 2 (by decide)]; decide), xw_end ht hW⟩, hS.F ht⟩) hS.2.2 dX6_count_93
    · refine lv_iload_n hx hb dX6_count_0 rfl (lv_at hl 1 rfl) ?_
      refine lv_tableIn (off := 93) (tgt := 94) hx hb dX6_count_1 (by decide) (by decide) (by decide) (by decide) ?_
      refine lv_aload_n hx hb dX6_count_94 rfl (lv_at hl 0 rfl) ?_
      refine xg_get (κ := 16) (ci := 6) (C := RX6) (T := TX6) (N := 6) hx hb hts inX6 hown hK hW hτ (by decide) rfl rfl 0 (by decide) (hts (.fieldLink RX6 10 "HalfTickets" "now" "LHalfTickets$Ministry;") (List.mem_of_getElem? (i := 1) (by decide +kernel))) (fun _ h9 => h9) rfl dX6_count_95 ?_
      refine xg_get (κ := 1) (ci := 2) (C := RX2) (T := TX2) (N := 7) hx hb hts inX2 hown hK hW (O.b1 hτ) (by decide) rfl rfl 4 (by decide) (hts (.fieldLink RX6 113 "HalfTickets$Ministry" "ticks" "I") (List.mem_of_getElem? (i := 3) (by decide +kernel))) (fun _ h9 => h9) rfl dX6_count_98 ?_
      exact W.iret (v := (M (b + 1) 4)) hx hb hr (fun t ht hWm => ⟨⟨(M (b + 1) 4), M, rfl, (show (M (b + 1) 4) = xa_cnt (nI 3) by rw [hF.2.2.1.2.1]; decide), xw_end ht hW⟩, hS.F ht⟩) hS.2.2 dX6_count_101
    · refine lv_iload_n hx hb dX6_count_0 rfl (lv_at hl 1 rfl) ?_
      refine lv_tableIn (off := 101) (tgt := 102) hx hb dX6_count_1 (by decide) (by decide) (by decide) (by decide) ?_
      refine lv_aload_n hx hb dX6_count_102 rfl (lv_at hl 0 rfl) ?_
      refine xg_get (κ := 16) (ci := 6) (C := RX6) (T := TX6) (N := 6) hx hb hts inX6 hown hK hW hτ (by decide) rfl rfl 0 (by decide) (hts (.fieldLink RX6 10 "HalfTickets" "now" "LHalfTickets$Ministry;") (List.mem_of_getElem? (i := 1) (by decide +kernel))) (fun _ h9 => h9) rfl dX6_count_103 ?_
      refine xg_get (κ := 1) (ci := 2) (C := RX2) (T := TX2) (N := 7) hx hb hts inX2 hown hK hW (O.b1 hτ) (by decide) rfl rfl 3 (by decide) (hts (.fieldLink RX6 91 "HalfTickets$Ministry" "people" "I") (List.mem_of_getElem? (i := 4) (by decide +kernel))) (fun _ h9 => h9) rfl dX6_count_106 ?_
      exact W.iret (v := (M (b + 1) 3)) hx hb hr (fun t ht hWm => ⟨⟨(M (b + 1) 3), M, rfl, (show (M (b + 1) 3) = xa_cnt (nI 4) by rw [hF.2.2.1.1]; decide), xw_end ht hW⟩, hS.F ht⟩) hS.2.2 dX6_count_109
    · refine lv_iload_n hx hb dX6_count_0 rfl (lv_at hl 1 rfl) ?_
      refine lv_tableIn (off := 109) (tgt := 110) hx hb dX6_count_1 (by decide) (by decide) (by decide) (by decide) ?_
      refine lv_aload_n hx hb dX6_count_110 rfl (lv_at hl 0 rfl) ?_
      refine xg_get (κ := 16) (ci := 6) (C := RX6) (T := TX6) (N := 6) hx hb hts inX6 hown hK hW hτ (by decide) rfl rfl 0 (by decide) (hts (.fieldLink RX6 10 "HalfTickets" "now" "LHalfTickets$Ministry;") (List.mem_of_getElem? (i := 1) (by decide +kernel))) (fun _ h9 => h9) rfl dX6_count_111 ?_
      refine lv_iconst (v := (nI 0)) hx hb dX6_count_114 (by decide) ?_
      refine xc_i (xr_V (As := [.int (nI 0)]) (rest := []) (κ := 1) ⟨hx, hb, hml, hown, hts⟩ (c_X2_peopleWho l O M (b + 1) (O.b1 hτ) (nI 0)) (cwV 1 hts gX6_count_X2_peopleWho rfl rfl rfl (by decide +kernel) ⟨Nat.le_of_ble_eq_true rfl, Nat.le_of_ble_eq_true rfl⟩) hK hst hnw hS hW (O.b1 hτ) (by decide) rfl rfl rfl hl.1 rfl (Nat.le_of_ble_eq_true rfl) dX6_count_115 ⟨Nat.zero_le _, Nat.zero_le _⟩) hS (fun r_3 M_1 H locs hq_2 hW hS => ?_)
      obtain ⟨hq_2a, hq_2b⟩ := hq_2
      rw [hq_2b] at hW
      rw [hq_2a]
      rw [xe_pw hF.2.1 (by decide)]
      exact W.iret (v := (nI 0)) hx hb hr (fun t ht hWm => ⟨⟨(nI 0), M, rfl, (show (nI 0) = xa_cnt (nI 5) by decide), xw_end ht hW⟩, hS.F ht⟩) hS.2.2 dX6_count_118
    · refine lv_iload_n hx hb dX6_count_0 rfl (lv_at hl 1 rfl) ?_
      refine lv_tableIn (off := 118) (tgt := 119) hx hb dX6_count_1 (by decide) (by decide) (by decide) (by decide) ?_
      refine lv_aload_n hx hb dX6_count_119 rfl (lv_at hl 0 rfl) ?_
      refine xg_get (κ := 16) (ci := 6) (C := RX6) (T := TX6) (N := 6) hx hb hts inX6 hown hK hW hτ (by decide) rfl rfl 0 (by decide) (hts (.fieldLink RX6 10 "HalfTickets" "now" "LHalfTickets$Ministry;") (List.mem_of_getElem? (i := 1) (by decide +kernel))) (fun _ h9 => h9) rfl dX6_count_120 ?_
      refine lv_iconst (v := (nI 1)) hx hb dX6_count_123 (by decide) ?_
      refine xc_i (xr_V (As := [.int (nI 1)]) (rest := []) (κ := 1) ⟨hx, hb, hml, hown, hts⟩ (c_X2_peopleWho l O M (b + 1) (O.b1 hτ) (nI 1)) (cwV 1 hts gX6_count_X2_peopleWho rfl rfl rfl (by decide +kernel) ⟨Nat.le_of_ble_eq_true rfl, Nat.le_of_ble_eq_true rfl⟩) hK hst hnw hS hW (O.b1 hτ) (by decide) rfl rfl rfl hl.1 rfl (Nat.le_of_ble_eq_true rfl) dX6_count_124 ⟨Nat.zero_le _, Nat.zero_le _⟩) hS (fun r_6 M_4 H locs hq_5 hW hS => ?_)
      obtain ⟨hq_5a, hq_5b⟩ := hq_5
      rw [hq_5b] at hW
      rw [hq_5a]
      rw [xe_pw hF.2.1 (by decide)]
      exact W.iret (v := (nI 0)) hx hb hr (fun t ht hWm => ⟨⟨(nI 0), M, rfl, (show (nI 0) = xa_cnt (nI 6) by decide), xw_end ht hW⟩, hS.F ht⟩) hS.2.2 dX6_count_127
    · refine lv_iload_n hx hb dX6_count_0 rfl (lv_at hl 1 rfl) ?_
      refine lv_tableIn (off := 127) (tgt := 128) hx hb dX6_count_1 (by decide) (by decide) (by decide) (by decide) ?_
      refine lv_aload_n hx hb dX6_count_128 rfl (lv_at hl 0 rfl) ?_
      refine xg_get (κ := 16) (ci := 6) (C := RX6) (T := TX6) (N := 6) hx hb hts inX6 hown hK hW hτ (by decide) rfl rfl 0 (by decide) (hts (.fieldLink RX6 10 "HalfTickets" "now" "LHalfTickets$Ministry;") (List.mem_of_getElem? (i := 1) (by decide +kernel))) (fun _ h9 => h9) rfl dX6_count_129 ?_
      refine lv_iconst (v := (nI 2)) hx hb dX6_count_132 (by decide) ?_
      refine xc_i (xr_V (As := [.int (nI 2)]) (rest := []) (κ := 1) ⟨hx, hb, hml, hown, hts⟩ (c_X2_peopleWho l O M (b + 1) (O.b1 hτ) (nI 2)) (cwV 1 hts gX6_count_X2_peopleWho rfl rfl rfl (by decide +kernel) ⟨Nat.le_of_ble_eq_true rfl, Nat.le_of_ble_eq_true rfl⟩) hK hst hnw hS hW (O.b1 hτ) (by decide) rfl rfl rfl hl.1 rfl (Nat.le_of_ble_eq_true rfl) dX6_count_133 ⟨Nat.zero_le _, Nat.zero_le _⟩) hS (fun r_9 M_7 H locs hq_8 hW hS => ?_)
      obtain ⟨hq_8a, hq_8b⟩ := hq_8
      rw [hq_8b] at hW
      rw [hq_8a]
      rw [xe_pw hF.2.1 (by decide)]
      exact W.iret (v := (nI 0)) hx hb hr (fun t ht hWm => ⟨⟨(nI 0), M, rfl, (show (nI 0) = xa_cnt (nI 7) by decide), xw_end ht hW⟩, hS.F ht⟩) hS.2.2 dX6_count_136
    · refine lv_iload_n hx hb dX6_count_0 rfl (lv_at hl 1 rfl) ?_
      refine lv_tableIn (off := 136) (tgt := 137) hx hb dX6_count_1 (by decide) (by decide) (by decide) (by decide) ?_
      refine lv_aload_n hx hb dX6_count_137 rfl (lv_at hl 0 rfl) ?_
      refine xg_get (κ := 16) (ci := 6) (C := RX6) (T := TX6) (N := 6) hx hb hts inX6 hown hK hW hτ (by decide) rfl rfl 0 (by decide) (hts (.fieldLink RX6 10 "HalfTickets" "now" "LHalfTickets$Ministry;") (List.mem_of_getElem? (i := 1) (by decide +kernel))) (fun _ h9 => h9) rfl dX6_count_138 ?_
      refine lv_iconst (v := (nI 3)) hx hb dX6_count_141 (by decide) ?_
      refine xc_i (xr_V (As := [.int (nI 3)]) (rest := []) (κ := 1) ⟨hx, hb, hml, hown, hts⟩ (c_X2_peopleWho l O M (b + 1) (O.b1 hτ) (nI 3)) (cwV 1 hts gX6_count_X2_peopleWho rfl rfl rfl (by decide +kernel) ⟨Nat.le_of_ble_eq_true rfl, Nat.le_of_ble_eq_true rfl⟩) hK hst hnw hS hW (O.b1 hτ) (by decide) rfl rfl rfl hl.1 rfl (Nat.le_of_ble_eq_true rfl) dX6_count_142 ⟨Nat.zero_le _, Nat.zero_le _⟩) hS (fun r_12 M_10 H locs hq_11 hW hS => ?_)
      obtain ⟨hq_11a, hq_11b⟩ := hq_11
      rw [hq_11b] at hW
      rw [hq_11a]
      rw [xe_pw hF.2.1 (by decide)]
      exact W.iret (v := (nI 0)) hx hb hr (fun t ht hWm => ⟨⟨(nI 0), M, rfl, (show (nI 0) = xa_cnt (nI 8) by decide), xw_end ht hW⟩, hS.F ht⟩) hS.2.2 dX6_count_145
    · refine lv_iload_n hx hb dX6_count_0 rfl (lv_at hl 1 rfl) ?_
      refine lv_tableIn (off := 145) (tgt := 146) hx hb dX6_count_1 (by decide) (by decide) (by decide) (by decide) ?_
      refine lv_aload_n hx hb dX6_count_146 rfl (lv_at hl 0 rfl) ?_
      refine xg_get (κ := 16) (ci := 6) (C := RX6) (T := TX6) (N := 6) hx hb hts inX6 hown hK hW hτ (by decide) rfl rfl 0 (by decide) (hts (.fieldLink RX6 10 "HalfTickets" "now" "LHalfTickets$Ministry;") (List.mem_of_getElem? (i := 1) (by decide +kernel))) (fun _ h9 => h9) rfl dX6_count_147 ?_
      refine xc_i (xr_V (As := []) (rest := []) (κ := 1) ⟨hx, hb, hml, hown, hts⟩ (c_X2_halvesOfWindows l O M (b + 1) (O.b1 hτ)) (cwV 0 hts gX6_count_X2_halvesOfWindows rfl rfl rfl (by decide +kernel) ⟨Nat.le_of_ble_eq_true rfl, Nat.le_of_ble_eq_true rfl⟩) hK hst hnw hS hW (O.b1 hτ) (by decide) rfl rfl rfl hl.1 rfl (Nat.le_of_ble_eq_true rfl) dX6_count_150 ⟨Nat.zero_le _, Nat.zero_le _⟩) hS (fun r_15 M_13 H locs hq_14 hW hS => ?_)
      obtain ⟨hq_14a, hq_14b⟩ := hq_14
      rw [hq_14b] at hW
      rw [hq_14a]
      exact W.iret (v := (xf_sum (fun k => M ((b + 1) + 5 * k + 4) 2) 6)) hx hb hr (fun t ht hWm => ⟨⟨(xf_sum (fun k => M ((b + 1) + 5 * k + 4) 2) 6), M, rfl, (show (xf_sum (fun k => M ((b + 1) + 5 * k + 4) 2) 6) = xa_cnt (nI 9) by rw [xf_sum_c (f' := fun _ => nI 8) (fun k hk => (hF.2.2.2.2.1 k hk).2.2.1)]; decide), xw_end ht hW⟩, hS.F ht⟩) hS.2.2 dX6_count_153
    · refine lv_iload_n hx hb dX6_count_0 rfl (lv_at hl 1 rfl) ?_
      refine lv_tableIn (off := 153) (tgt := 154) hx hb dX6_count_1 (by decide) (by decide) (by decide) (by decide) ?_
      refine lv_aload_n hx hb dX6_count_154 rfl (lv_at hl 0 rfl) ?_
      refine xg_get (κ := 16) (ci := 6) (C := RX6) (T := TX6) (N := 6) hx hb hts inX6 hown hK hW hτ (by decide) rfl rfl 0 (by decide) (hts (.fieldLink RX6 10 "HalfTickets" "now" "LHalfTickets$Ministry;") (List.mem_of_getElem? (i := 1) (by decide +kernel))) (fun _ h9 => h9) rfl dX6_count_155 ?_
      refine xc_i (xr_V (As := []) (rest := []) (κ := 1) ⟨hx, hb, hml, hown, hts⟩ (c_X2_halvesOfPeople l O M (b + 1) (O.b1 hτ)) (cwV 0 hts gX6_count_X2_halvesOfPeople rfl rfl rfl (by decide +kernel) ⟨Nat.le_of_ble_eq_true rfl, Nat.le_of_ble_eq_true rfl⟩) hK hst hnw hS hW (O.b1 hτ) (by decide) rfl rfl rfl hl.1 rfl (Nat.le_of_ble_eq_true rfl) dX6_count_158 ⟨Nat.zero_le _, Nat.zero_le _⟩) hS (fun r_18 M_16 H locs hq_17 hW hS => ?_)
      obtain ⟨hq_17a, hq_17b⟩ := hq_17
      rw [hq_17b] at hW
      rw [hq_17a]
      exact W.iret (v := (xf_sum (fun k => if M ((b + 1) + 2 * k + 34) 5 = 0 then nI 0 else nI 1) 24)) hx hb hr (fun t ht hWm => ⟨⟨(xf_sum (fun k => if M ((b + 1) + 2 * k + 34) 5 = 0 then nI 0 else nI 1) 24), M, rfl, (show (xf_sum (fun k => if M ((b + 1) + 2 * k + 34) 5 = 0 then nI 0 else nI 1) 24) = xa_cnt (nI 10) by rw [xf_sum_0 (fun k hk => by rw [(hF.2.2.2.2.2.1 k hk).1]; exact if_pos rfl)]; decide), xw_end ht hW⟩, hS.F ht⟩) hS.2.2 dX6_count_161
    · refine lv_iload_n hx hb dX6_count_0 rfl (lv_at hl 1 rfl) ?_
      refine lv_tableIn (off := 161) (tgt := 162) hx hb dX6_count_1 (by decide) (by decide) (by decide) (by decide) ?_
      refine lv_aload_n hx hb dX6_count_162 rfl (lv_at hl 0 rfl) ?_
      refine xg_get (κ := 16) (ci := 6) (C := RX6) (T := TX6) (N := 6) hx hb hts inX6 hown hK hW hτ (by decide) rfl rfl 0 (by decide) (hts (.fieldLink RX6 10 "HalfTickets" "now" "LHalfTickets$Ministry;") (List.mem_of_getElem? (i := 1) (by decide +kernel))) (fun _ h9 => h9) rfl dX6_count_163 ?_
      refine xg_get (κ := 1) (ci := 2) (C := RX2) (T := TX2) (N := 7) hx hb hts inX2 hown hK hW (O.b1 hτ) (by decide) rfl rfl 5 (by decide) (hts (.fieldLink RX6 174 "HalfTickets$Ministry" "lost" "I") (List.mem_of_getElem? (i := 5) (by decide +kernel))) (fun _ h9 => h9) rfl dX6_count_166 ?_
      exact W.iret (v := (M (b + 1) 5)) hx hb hr (fun t ht hWm => ⟨⟨(M (b + 1) 5), M, rfl, (show (M (b + 1) 5) = xa_cnt (nI 11) by rw [hF.2.2.1.2.2.1]; decide), xw_end ht hW⟩, hS.F ht⟩) hS.2.2 dX6_count_169
    · refine lv_iload_n hx hb dX6_count_0 rfl (lv_at hl 1 rfl) ?_
      refine lv_tableIn (off := 169) (tgt := 170) hx hb dX6_count_1 (by decide) (by decide) (by decide) (by decide) ?_
      refine lv_aload_n hx hb dX6_count_170 rfl (lv_at hl 0 rfl) ?_
      refine xg_get (κ := 16) (ci := 6) (C := RX6) (T := TX6) (N := 6) hx hb hts inX6 hown hK hW hτ (by decide) rfl rfl 0 (by decide) (hts (.fieldLink RX6 10 "HalfTickets" "now" "LHalfTickets$Ministry;") (List.mem_of_getElem? (i := 1) (by decide +kernel))) (fun _ h9 => h9) rfl dX6_count_171 ?_
      refine xg_get (κ := 1) (ci := 2) (C := RX2) (T := TX2) (N := 7) hx hb hts inX2 hown hK hW (O.b1 hτ) (by decide) rfl rfl 6 (by decide) (hts (.fieldLink RX6 85 "HalfTickets$Ministry" "brought" "I") (List.mem_of_getElem? (i := 6) (by decide +kernel))) (fun _ h9 => h9) rfl dX6_count_174 ?_
      exact W.iret (v := (M (b + 1) 6)) hx hb hr (fun t ht hWm => ⟨⟨(M (b + 1) 6), M, rfl, (show (M (b + 1) 6) = xa_cnt (nI 12) by rw [hF.2.2.1.2.2.2]; decide), xw_end ht hW⟩, hS.F ht⟩) hS.2.2 dX6_count_177
    · refine lv_iload_n hx hb dX6_count_0 rfl (lv_at hl 1 rfl) ?_
      refine lv_tableIn (off := 177) (tgt := 178) hx hb dX6_count_1 (by decide) (by decide) (by decide) (by decide) ?_
      refine lv_aload_n hx hb dX6_count_178 rfl (lv_at hl 0 rfl) ?_
      refine xg_get (κ := 16) (ci := 6) (C := RX6) (T := TX6) (N := 6) hx hb hts inX6 hown hK hW hτ (by decide) rfl rfl 0 (by decide) (hts (.fieldLink RX6 10 "HalfTickets" "now" "LHalfTickets$Ministry;") (List.mem_of_getElem? (i := 1) (by decide +kernel))) (fun _ h9 => h9) rfl dX6_count_179 ?_
      refine xc_i (xr_V (As := []) (rest := []) (κ := 1) ⟨hx, hb, hml, hown, hts⟩ (c_X2_waits l O M (b + 1) (O.b1 hτ)) (cwV 0 hts gX6_count_X2_waits rfl rfl rfl (by decide +kernel) ⟨Nat.le_of_ble_eq_true rfl, Nat.le_of_ble_eq_true rfl⟩) hK hst hnw hS hW (O.b1 hτ) (by decide) rfl rfl rfl hl.1 rfl (Nat.le_of_ble_eq_true rfl) dX6_count_182 ⟨Nat.zero_le _, Nat.zero_le _⟩) hS (fun r_21 M_19 H locs hq_20 hW hS => ?_)
      obtain ⟨hq_20a, hq_20b⟩ := hq_20
      rw [hq_20b] at hW
      rw [hq_20a]
      exact W.iret (v := (xf_sum (fun k => M ((b + 1) + 2 * k + 34) 7) 24)) hx hb hr (fun t ht hWm => ⟨⟨(xf_sum (fun k => M ((b + 1) + 2 * k + 34) 7) 24), M, rfl, (show (xf_sum (fun k => M ((b + 1) + 2 * k + 34) 7) 24) = xa_cnt (nI 13) by rw [xf_sum_0 (fun k hk => (hF.2.2.2.2.2.1 k hk).2.1)]; decide), xw_end ht hW⟩, hS.F ht⟩) hS.2.2 dX6_count_185
    · refine lv_iload_n hx hb dX6_count_0 rfl (lv_at hl 1 rfl) ?_
      refine lv_tableIn (off := 185) (tgt := 186) hx hb dX6_count_1 (by decide) (by decide) (by decide) (by decide) ?_
      refine lv_aload_n hx hb dX6_count_186 rfl (lv_at hl 0 rfl) ?_
      refine xg_get (κ := 16) (ci := 6) (C := RX6) (T := TX6) (N := 6) hx hb hts inX6 hown hK hW hτ (by decide) rfl rfl 0 (by decide) (hts (.fieldLink RX6 10 "HalfTickets" "now" "LHalfTickets$Ministry;") (List.mem_of_getElem? (i := 1) (by decide +kernel))) (fun _ h9 => h9) rfl dX6_count_187 ?_
      refine xc_i (xr_V (As := []) (rest := []) (κ := 1) ⟨hx, hb, hml, hown, hts⟩ (c_X2_timesSentBack l O M (b + 1) (O.b1 hτ)) (cwV 0 hts gX6_count_X2_timesSentBack rfl rfl rfl (by decide +kernel) ⟨Nat.le_of_ble_eq_true rfl, Nat.le_of_ble_eq_true rfl⟩) hK hst hnw hS hW (O.b1 hτ) (by decide) rfl rfl rfl hl.1 rfl (Nat.le_of_ble_eq_true rfl) dX6_count_190 ⟨Nat.zero_le _, Nat.zero_le _⟩) hS (fun r_24 M_22 H locs hq_23 hW hS => ?_)
      obtain ⟨hq_23a, hq_23b⟩ := hq_23
      rw [hq_23b] at hW
      rw [hq_23a]
      exact W.iret (v := (xf_sum (fun k => M ((b + 1) + 2 * k + 34) 9) 24)) hx hb hr (fun t ht hWm => ⟨⟨(xf_sum (fun k => M ((b + 1) + 2 * k + 34) 9) 24), M, rfl, (show (xf_sum (fun k => M ((b + 1) + 2 * k + 34) 9) 24) = xa_cnt (nI 14) by rw [xf_sum_0 (fun k hk => (hF.2.2.2.2.2.1 k hk).2.2)]; decide), xw_end ht hW⟩, hS.F ht⟩) hS.2.2 dX6_count_193
    · refine lv_iload_n hx hb dX6_count_0 rfl (lv_at hl 1 rfl) ?_
      refine lv_tableIn (off := 193) (tgt := 194) hx hb dX6_count_1 (by decide) (by decide) (by decide) (by decide) ?_
      refine lv_aload_n hx hb dX6_count_194 rfl (lv_at hl 0 rfl) ?_
      refine xg_get (κ := 16) (ci := 6) (C := RX6) (T := TX6) (N := 6) hx hb hts inX6 hown hK hW hτ (by decide) rfl rfl 5 (by decide) (hts (.fieldLink RX6 37 "HalfTickets" "pad" "LHalfTickets$Pad;") (List.mem_of_getElem? (i := 7) (by decide +kernel))) (fun _ h9 => h9) rfl dX6_count_195 ?_
      refine xc_i (xr_V (As := []) (rest := []) (κ := 14) ⟨hx, hb, hml, hown, hts⟩ (c_X3_length l O M (b + 825) (O.b6 hτ)) (cwV 0 hts gX6_count_X3_length rfl rfl rfl (by decide +kernel) ⟨Nat.le_of_ble_eq_true rfl, Nat.le_of_ble_eq_true rfl⟩) hK hst hnw hS hW (O.b6 hτ) (by decide) rfl rfl rfl hl.1 rfl (Nat.le_of_ble_eq_true rfl) dX6_count_198 ⟨Nat.zero_le _, Nat.zero_le _⟩) hS (fun r_27 M_25 H locs hq_26 hW hS => ?_)
      obtain ⟨hq_26a, hq_26b⟩ := hq_26
      rw [hq_26b] at hW
      rw [hq_26a]
      exact W.iret (v := (M (b + 825) 1)) hx hb hr (fun t ht hWm => ⟨⟨(M (b + 825) 1), M, rfl, (show (M (b + 825) 1) = xa_cnt (nI 15) by rw [hF.2.2.2.2.2.2.2.2]; decide), xw_end ht hW⟩, hS.F ht⟩) hS.2.2 dX6_count_201
    · refine lv_iload_n hx hb dX6_count_0 rfl (lv_at hl 1 rfl) ?_
      refine lv_tableIn (off := 201) (tgt := 202) hx hb dX6_count_1 (by decide) (by decide) (by decide) (by decide) ?_
      refine lv_aload_n hx hb dX6_count_202 rfl (lv_at hl 0 rfl) ?_
      refine xg_get (κ := 16) (ci := 6) (C := RX6) (T := TX6) (N := 6) hx hb hts inX6 hown hK hW hτ (by decide) rfl rfl 2 (by decide) (hts (.fieldLink RX6 22 "HalfTickets" "history" "LHalfTickets$History;") (List.mem_of_getElem? (i := 8) (by decide +kernel))) (fun _ h9 => h9) rfl dX6_count_203 ?_
      refine xc_i (xr_V (As := []) (rest := []) (κ := 10) ⟨hx, hb, hml, hown, hts⟩ (c_X0_kept l O M (b + 165) (O.b3 hτ)) (cwV 0 hts gX6_count_X0_kept rfl rfl rfl (by decide +kernel) ⟨Nat.le_of_ble_eq_true rfl, Nat.le_of_ble_eq_true rfl⟩) hK hst hnw hS hW (O.b3 hτ) (by decide) rfl rfl rfl hl.1 rfl (Nat.le_of_ble_eq_true rfl) dX6_count_206 ⟨Nat.zero_le _, Nat.zero_le _⟩) hS (fun r_30 M_28 H locs hq_29 hW hS => ?_)
      obtain ⟨hq_29a, hq_29b⟩ := hq_29
      rw [hq_29b] at hW
      rw [hq_29a]
      exact W.iret (v := (M (b + 165) 2)) hx hb hr (fun t ht hWm => ⟨⟨(M (b + 165) 2), M, rfl, (show (M (b + 165) 2) = xa_cnt (nI 16) by rw [hF.2.2.2.2.2.2.1.2]; decide), xw_end ht hW⟩, hS.F ht⟩) hS.2.2 dX6_count_209

theorem xe_at' {a : Nat} {M M' : xm_T} (h : xe_R a M M') {x : Nat} (hx : x < a ∨ a + 82 ≤ x) {j : Nat} (_ : 0 = 0) : M' x j = M x j := by
  rcases h x j with ⟨q1, -⟩ | ⟨-, k, hk, q⟩ | q
  · omega
  · omega
  · exact q

set_option maxHeartbeats 4000000 in
set_option maxRecDepth 100000 in
/-- ifPassed on a new object -/
theorem cp_ifPassed (l : Launch) {G : va_G} {g : Nat → ClassId} {t0 τ : Nat → Nat} {A : Nat → Prop} (O : xk_O τ A) (M : xm_T) (b : Nat) (hτ : τ b = 16) (hF : xp_F M b) (t v : Int32) : Met l yX6_ifPassed wsX6_ifPassed ({ frames := 5, cells := 0, slots := 0, locals := 160 }) (va_Pc [.ref b, .int t, .int v] (xS_t G g t0 τ A M)) (va_Qi (fun r M' => r = xa_ifp t v) (fun M' t => xw_D G g τ M' t.heap) A) 0 0 A := by
  refine Met.ofW (cc := cX6_ifPassed) (maxL := 4) (ret := (some .int)) (by decide) rfl ?_
  intro p e s m args below meth c s₁ B hml hv
  obtain ⟨rfl, hW, hK, hst, hnw⟩ := hv
  have hx := B.exec
  have hb := B.bytes
  have hr := B.returns
  have hts := atoms_spec (ws := wsX6_ifPassed) B.pre
  have hown : s.vm.findClass RX6 = some m.cls := findClass_of_methodNamed B.named
  have hlocks := B.notSynchronized
  have hS : va_S A s.heap s.heap [] := va_S.rf
  have inX6 : ∀ w ∈ u_ws RX6 TX6 6, w ∈ wsX6_ifPassed := by decide +kernel
  have hl := lv_entry ([.ref b, .int t, .int v]) (n := 4) (Nat.le_of_ble_eq_true rfl)
  rw [lg_entry_eq]
  generalize (lg_sl ([.ref b, .int t, .int v]) ++ List.replicate (4 - (lg_sl ([.ref b, .int t, .int v])).length) Slot.unset).toArray = ls at hl ⊢
  have hl : lv_has ls 4 [(0, .ref b), (1, .int t), (2, .int v)] := hl
  refine lv_iload_n hx hb dX6_ifPassed_0 rfl (lv_at hl 1 rfl) ?_
  refine lv_iconst (v := (nI 1)) hx hb dX6_ifPassed_1 (by decide) ?_
  refine lv_icmp_lt (tgt := 21) hx hb dX6_ifPassed_2 (by decide) (fun c_1 => ?_) (fun c_1 => ?_)
  · have hres : (-2 : Int32) = xa_ifp t v := by unfold xa_ifp; rw [if_pos c_1]
    refine lv_bipush (v := (-2)) hx hb dX6_ifPassed_21 (by decide) ?_
    exact W.iret (v := (-2)) hx hb hr (fun t ht hWm => ⟨⟨(-2), M, rfl, hres, xw_end ht hW⟩, hS.F ht⟩) hS.2.2 dX6_ifPassed_23
  · refine lv_iload_n hx hb dX6_ifPassed_5 rfl (lv_at hl 1 rfl) ?_
    refine lv_sipush (v := (nI 300)) hx hb dX6_ifPassed_6 (by decide) ?_
    refine lv_icmp_gt (tgt := 21) hx hb dX6_ifPassed_9 (by decide) (fun c_2 => ?_) (fun c_2 => ?_)
    · have hres : (-2 : Int32) = xa_ifp t v := by unfold xa_ifp; rw [if_neg c_1, if_neg (Int32.not_le.mpr c_2)]
      refine lv_bipush (v := (-2)) hx hb dX6_ifPassed_21 (by decide) ?_
      exact W.iret (v := (-2)) hx hb hr (fun t ht hWm => ⟨⟨(-2), M, rfl, hres, xw_end ht hW⟩, hS.F ht⟩) hS.2.2 dX6_ifPassed_23
    · replace c_2 := Int32.not_lt.mp c_2
      refine lv_iload_n hx hb dX6_ifPassed_12 rfl (lv_at hl 2 rfl) ?_
      refine lv_if_lt (tgt := 21) hx hb dX6_ifPassed_13 (by decide) (fun c_3 => ?_) (fun c_3 => ?_)
      · have hres : (-2 : Int32) = xa_ifp t v := by unfold xa_ifp; rw [if_neg c_1, if_pos c_2, if_pos c_3]
        refine lv_bipush (v := (-2)) hx hb dX6_ifPassed_21 (by decide) ?_
        exact W.iret (v := (-2)) hx hb hr (fun t ht hWm => ⟨⟨(-2), M, rfl, hres, xw_end ht hW⟩, hS.F ht⟩) hS.2.2 dX6_ifPassed_23
      · refine lv_iload_n hx hb dX6_ifPassed_16 rfl (lv_at hl 2 rfl) ?_
        refine lv_iconst (v := (nI 3)) hx hb dX6_ifPassed_17 (by decide) ?_
        refine lv_icmp_le (tgt := 24) hx hb dX6_ifPassed_18 (by decide) (fun c_4 => ?_) (fun c_4 => ?_)
        · obtain ⟨k, hk, rfl⟩ := xi_ix2 (xi_1 c_1) c_2 (by decide)
          obtain ⟨j, hj, rfl⟩ := xi_ix2 c_3 c_4 (by decide)
          refine lv_aload_n hx hb dX6_ifPassed_24 rfl (lv_at hl 0 rfl) ?_
          refine xg_get (κ := 16) (ci := 6) (C := RX6) (T := TX6) (N := 6) hx hb hts inX6 hown hK hW hτ (by decide) rfl rfl 1 (by decide) (hts (.fieldLink RX6 16 "HalfTickets" "trial" "LHalfTickets$Ministry;") (List.mem_of_getElem? (i := 1) (by decide +kernel))) (fun _ h9 => h9) rfl dX6_ifPassed_25 ?_
          refine lv_aload_n hx hb dX6_ifPassed_28 rfl (lv_at hl 0 rfl) ?_
          refine xg_get (κ := 16) (ci := 6) (C := RX6) (T := TX6) (N := 6) hx hb hts inX6 hown hK hW hτ (by decide) rfl rfl 0 (by decide) (hts (.fieldLink RX6 10 "HalfTickets" "now" "LHalfTickets$Ministry;") (List.mem_of_getElem? (i := 2) (by decide +kernel))) (fun _ h9 => h9) rfl dX6_ifPassed_29 ?_
          refine xc_v (xr_V (As := [.ref (b + 1)]) (rest := []) (κ := 1) ⟨hx, hb, hml, hown, hts⟩ (c_X2_become l O M (b + 83) (b + 1) (O.b2 hτ) (O.b1 hτ) (by omega) (xp_T hF.1)) (cwV 1 hts gX6_ifPassed_X2_become rfl rfl rfl (by decide +kernel) ⟨Nat.le_of_ble_eq_true rfl, Nat.le_of_ble_eq_true rfl⟩) hK hst hnw hS hW (O.b2 hτ) (by decide) rfl rfl rfl hl.1 rfl (Nat.le_of_ble_eq_true rfl) dX6_ifPassed_32 ⟨Nat.zero_le _, Nat.zero_le _⟩) hS (fun M_5 H locs hq_6 hW hS => ?_)
          have hE1 : xe_E M_5 (b + 83) := by rw [hq_6]; exact xe_cp (by omega) hF.2.1
          have ho : ∀ x, x < b + 83 ∨ b + 165 ≤ x → M_5 x = M x := fun x hx => by rw [hq_6]; exact xf_out (by omega)
          have hi : ∀ x, x < 82 → M_5 (b + 83 + x) = M (b + 1 + x) := fun x hx => by rw [hq_6, xf_in (by omega)]; congr 1; omega
          refine lv_iconst (v := (nI 0)) hx hb dX6_ifPassed_35 (by decide) ?_
          refine lv_istore_n (lv' := [(3, .int (nI 0)), (0, .ref b), (1, .int (nI k)), (2, .int (nI j))]) hx hb dX6_ifPassed_36 rfl hl (by decide) rfl (fun ls hl => ?_)
          refine xl_up (σ := xm_T) k (fun kk zz H locs ls => xw_D G g τ zz H ∧ va_S A s.heap H locs ∧ lv_has ls 4 [(3, .int (nI kk)), (0, .ref b), (1, .int (nI k)), (2, .int (nI j))] ∧ xe_R (b + 83) M_5 zz) (fun z37 H locs ls hI => ?_) (fun k37 z37 H locs ls hk37 hI ih37 => ?_) (k0 := 0) (z0 := M_5) (Nat.zero_le _) ⟨hW, hS, lv_sub hl [0, 1, 2, 3] rfl, (xe_rf _ _)⟩
          · obtain ⟨hW, hS, hl, hE37⟩ := hI
            refine lv_iload_n hx hb dX6_ifPassed_37 rfl (lv_at hl 0 rfl) ?_
            refine lv_iload_n hx hb dX6_ifPassed_38 rfl (lv_at hl 2 rfl) ?_
            refine lv_icmp_ge (tgt := 55) hx hb dX6_ifPassed_39 (by decide) (fun c_8 => ?_) (fun c_8 => ?_)
            · have hEt := xe_keep hE37 hE1
              have hEn : xe_E z37 (b + 1) := xe_mv (fun x h1 h2 => by funext j; rw [xe_at' hE37 (by omega) (by omega), ho x (by omega)]) hF.2.1
              have hrow : ∀ x c, x < 82 → c ≠ 11 → c ≠ 4 → z37 (b + 83 + x) c = M (b + 1 + x) c := fun x c hx h1 h2 => by rw [xe_at hE37 h1 (Or.inr h2), hi x hx]
              have hnow : ∀ x c, x < 82 → z37 (b + 1 + x) c = M (b + 1 + x) c := fun x c hx => by rw [xe_at' hE37 (by omega) (by omega), ho _ (by omega)]
              rcases (show j = 0 ∨ j = 1 ∨ j = 2 ∨ j = 3 by omega) with rfl | rfl | rfl | rfl
              · refine lv_iload_n hx hb dX6_ifPassed_55 rfl (lv_at hl 3 rfl) ?_
                refine lv_tableIn (off := 28) (tgt := 84) hx hb dX6_ifPassed_56 (by decide) (by decide) (by decide) (by decide) ?_
                refine lv_aload_n hx hb dX6_ifPassed_84 rfl (lv_at hl 1 rfl) ?_
                refine xg_get (κ := 16) (ci := 6) (C := RX6) (T := TX6) (N := 6) hx hb hts inX6 hown hK hW hτ (by decide) rfl rfl 1 (by decide) (hts (.fieldLink RX6 16 "HalfTickets" "trial" "LHalfTickets$Ministry;") (List.mem_of_getElem? (i := 1) (by decide +kernel))) (fun _ h9 => h9) rfl dX6_ifPassed_85 ?_
                refine lv_iconst (v := (nI 2)) hx hb dX6_ifPassed_88 (by decide) ?_
                refine xc_i (xr_V (As := [.int (nI 2)]) (rest := []) (κ := 1) ⟨hx, hb, hml, hown, hts⟩ (c_X2_peopleWho l O z37 (b + 83) (O.b2 hτ) (nI 2)) (cwV 1 hts gX6_ifPassed_X2_peopleWho rfl rfl rfl (by decide +kernel) ⟨Nat.le_of_ble_eq_true rfl, Nat.le_of_ble_eq_true rfl⟩) hK hst hnw hS hW (O.b2 hτ) (by decide) rfl rfl rfl hl.1 rfl (Nat.le_of_ble_eq_true rfl) dX6_ifPassed_89 ⟨Nat.zero_le _, Nat.zero_le _⟩) hS (fun r_11 M_9 H locs hq_10 hW hS => ?_)
                obtain ⟨hq_10a, hq_10b⟩ := hq_10
                rw [hq_10b] at hW
                rw [hq_10a]
                rw [xe_pw hEt (by decide)]
                refine lv_aload_n hx hb dX6_ifPassed_92 rfl (lv_at hl 1 rfl) ?_
                refine xg_get (κ := 16) (ci := 6) (C := RX6) (T := TX6) (N := 6) hx hb hts inX6 hown hK hW hτ (by decide) rfl rfl 0 (by decide) (hts (.fieldLink RX6 10 "HalfTickets" "now" "LHalfTickets$Ministry;") (List.mem_of_getElem? (i := 2) (by decide +kernel))) (fun _ h9 => h9) rfl dX6_ifPassed_93 ?_
                refine lv_iconst (v := (nI 2)) hx hb dX6_ifPassed_96 (by decide) ?_
                refine xc_i (xr_V (As := [.int (nI 2)]) (rest := [.int (nI 0)]) (κ := 1) ⟨hx, hb, hml, hown, hts⟩ (c_X2_peopleWho l O z37 (b + 1) (O.b1 hτ) (nI 2)) (cwV 1 hts gX6_ifPassed_X2_peopleWho rfl rfl rfl (by decide +kernel) ⟨Nat.le_of_ble_eq_true rfl, Nat.le_of_ble_eq_true rfl⟩) hK hst hnw hS hW (O.b1 hτ) (by decide) rfl rfl rfl hl.1 rfl (Nat.le_of_ble_eq_true rfl) dX6_ifPassed_97 ⟨Nat.zero_le _, Nat.zero_le _⟩) hS (fun r_14 M_12 H locs hq_13 hW hS => ?_)
                obtain ⟨hq_13a, hq_13b⟩ := hq_13
                rw [hq_13b] at hW
                rw [hq_13a]
                rw [xe_pw hEn (by decide)]
                refine lv_isub hx hb dX6_ifPassed_100 ?_
                exact W.iret (v := ((nI 0) - (nI 0))) hx hb hr (fun t ht hWm => ⟨⟨((nI 0) - (nI 0)), z37, rfl, (show ((nI 0) - (nI 0)) = xa_ifp (nI k) (nI 0) by unfold xa_ifp; rw [if_neg c_1, if_pos c_2, if_neg c_3, if_pos c_4]; decide), xw_end ht hW⟩, hS.F ht⟩) hS.2.2 dX6_ifPassed_101
              · refine lv_iload_n hx hb dX6_ifPassed_55 rfl (lv_at hl 3 rfl) ?_
                refine lv_tableIn (off := 46) (tgt := 102) hx hb dX6_ifPassed_56 (by decide) (by decide) (by decide) (by decide) ?_
                refine lv_aload_n hx hb dX6_ifPassed_102 rfl (lv_at hl 1 rfl) ?_
                refine xg_get (κ := 16) (ci := 6) (C := RX6) (T := TX6) (N := 6) hx hb hts inX6 hown hK hW hτ (by decide) rfl rfl 1 (by decide) (hts (.fieldLink RX6 16 "HalfTickets" "trial" "LHalfTickets$Ministry;") (List.mem_of_getElem? (i := 1) (by decide +kernel))) (fun _ h9 => h9) rfl dX6_ifPassed_103 ?_
                refine lv_iconst (v := (nI 3)) hx hb dX6_ifPassed_106 (by decide) ?_
                refine xc_i (xr_V (As := [.int (nI 3)]) (rest := []) (κ := 1) ⟨hx, hb, hml, hown, hts⟩ (c_X2_peopleWho l O z37 (b + 83) (O.b2 hτ) (nI 3)) (cwV 1 hts gX6_ifPassed_X2_peopleWho rfl rfl rfl (by decide +kernel) ⟨Nat.le_of_ble_eq_true rfl, Nat.le_of_ble_eq_true rfl⟩) hK hst hnw hS hW (O.b2 hτ) (by decide) rfl rfl rfl hl.1 rfl (Nat.le_of_ble_eq_true rfl) dX6_ifPassed_107 ⟨Nat.zero_le _, Nat.zero_le _⟩) hS (fun r_17 M_15 H locs hq_16 hW hS => ?_)
                obtain ⟨hq_16a, hq_16b⟩ := hq_16
                rw [hq_16b] at hW
                rw [hq_16a]
                rw [xe_pw hEt (by decide)]
                refine lv_aload_n hx hb dX6_ifPassed_110 rfl (lv_at hl 1 rfl) ?_
                refine xg_get (κ := 16) (ci := 6) (C := RX6) (T := TX6) (N := 6) hx hb hts inX6 hown hK hW hτ (by decide) rfl rfl 0 (by decide) (hts (.fieldLink RX6 10 "HalfTickets" "now" "LHalfTickets$Ministry;") (List.mem_of_getElem? (i := 2) (by decide +kernel))) (fun _ h9 => h9) rfl dX6_ifPassed_111 ?_
                refine lv_iconst (v := (nI 3)) hx hb dX6_ifPassed_114 (by decide) ?_
                refine xc_i (xr_V (As := [.int (nI 3)]) (rest := [.int (nI 0)]) (κ := 1) ⟨hx, hb, hml, hown, hts⟩ (c_X2_peopleWho l O z37 (b + 1) (O.b1 hτ) (nI 3)) (cwV 1 hts gX6_ifPassed_X2_peopleWho rfl rfl rfl (by decide +kernel) ⟨Nat.le_of_ble_eq_true rfl, Nat.le_of_ble_eq_true rfl⟩) hK hst hnw hS hW (O.b1 hτ) (by decide) rfl rfl rfl hl.1 rfl (Nat.le_of_ble_eq_true rfl) dX6_ifPassed_115 ⟨Nat.zero_le _, Nat.zero_le _⟩) hS (fun r_20 M_18 H locs hq_19 hW hS => ?_)
                obtain ⟨hq_19a, hq_19b⟩ := hq_19
                rw [hq_19b] at hW
                rw [hq_19a]
                rw [xe_pw hEn (by decide)]
                refine lv_isub hx hb dX6_ifPassed_118 ?_
                exact W.iret (v := ((nI 0) - (nI 0))) hx hb hr (fun t ht hWm => ⟨⟨((nI 0) - (nI 0)), z37, rfl, (show ((nI 0) - (nI 0)) = xa_ifp (nI k) (nI 1) by unfold xa_ifp; rw [if_neg c_1, if_pos c_2, if_neg c_3, if_pos c_4]; decide), xw_end ht hW⟩, hS.F ht⟩) hS.2.2 dX6_ifPassed_119
              · refine lv_iload_n hx hb dX6_ifPassed_55 rfl (lv_at hl 3 rfl) ?_
                refine lv_tableIn (off := 64) (tgt := 120) hx hb dX6_ifPassed_56 (by decide) (by decide) (by decide) (by decide) ?_
                refine lv_aload_n hx hb dX6_ifPassed_120 rfl (lv_at hl 1 rfl) ?_
                refine xg_get (κ := 16) (ci := 6) (C := RX6) (T := TX6) (N := 6) hx hb hts inX6 hown hK hW hτ (by decide) rfl rfl 1 (by decide) (hts (.fieldLink RX6 16 "HalfTickets" "trial" "LHalfTickets$Ministry;") (List.mem_of_getElem? (i := 1) (by decide +kernel))) (fun _ h9 => h9) rfl dX6_ifPassed_121 ?_
                refine xc_i (xr_V (As := []) (rest := []) (κ := 1) ⟨hx, hb, hml, hown, hts⟩ (c_X2_waits l O z37 (b + 83) (O.b2 hτ)) (cwV 0 hts gX6_ifPassed_X2_waits rfl rfl rfl (by decide +kernel) ⟨Nat.le_of_ble_eq_true rfl, Nat.le_of_ble_eq_true rfl⟩) hK hst hnw hS hW (O.b2 hτ) (by decide) rfl rfl rfl hl.1 rfl (Nat.le_of_ble_eq_true rfl) dX6_ifPassed_124 ⟨Nat.zero_le _, Nat.zero_le _⟩) hS (fun r_23 M_21 H locs hq_22 hW hS => ?_)
                obtain ⟨hq_22a, hq_22b⟩ := hq_22
                rw [hq_22b] at hW
                rw [hq_22a]
                rw [xf_sum_0 (fun k hk => by rw [Nat.add_assoc (b + 83) (2 * k) 34, hrow _ _ (by omega) (by decide) (by decide), ← Nat.add_assoc]; exact (hF.2.2.2.2.2.1 k hk).2.1)]
                refine lv_aload_n hx hb dX6_ifPassed_127 rfl (lv_at hl 1 rfl) ?_
                refine xg_get (κ := 16) (ci := 6) (C := RX6) (T := TX6) (N := 6) hx hb hts inX6 hown hK hW hτ (by decide) rfl rfl 0 (by decide) (hts (.fieldLink RX6 10 "HalfTickets" "now" "LHalfTickets$Ministry;") (List.mem_of_getElem? (i := 2) (by decide +kernel))) (fun _ h9 => h9) rfl dX6_ifPassed_128 ?_
                refine xc_i (xr_V (As := []) (rest := [.int (nI 0)]) (κ := 1) ⟨hx, hb, hml, hown, hts⟩ (c_X2_waits l O z37 (b + 1) (O.b1 hτ)) (cwV 0 hts gX6_ifPassed_X2_waits rfl rfl rfl (by decide +kernel) ⟨Nat.le_of_ble_eq_true rfl, Nat.le_of_ble_eq_true rfl⟩) hK hst hnw hS hW (O.b1 hτ) (by decide) rfl rfl rfl hl.1 rfl (Nat.le_of_ble_eq_true rfl) dX6_ifPassed_131 ⟨Nat.zero_le _, Nat.zero_le _⟩) hS (fun r_26 M_24 H locs hq_25 hW hS => ?_)
                obtain ⟨hq_25a, hq_25b⟩ := hq_25
                rw [hq_25b] at hW
                rw [hq_25a]
                rw [xf_sum_0 (fun k hk => by rw [Nat.add_assoc (b + 1) (2 * k) 34, hnow _ _ (by omega), ← Nat.add_assoc]; exact (hF.2.2.2.2.2.1 k hk).2.1)]
                refine lv_isub hx hb dX6_ifPassed_134 ?_
                exact W.iret (v := ((nI 0) - (nI 0))) hx hb hr (fun t ht hWm => ⟨⟨((nI 0) - (nI 0)), z37, rfl, (show ((nI 0) - (nI 0)) = xa_ifp (nI k) (nI 2) by unfold xa_ifp; rw [if_neg c_1, if_pos c_2, if_neg c_3, if_pos c_4]; decide), xw_end ht hW⟩, hS.F ht⟩) hS.2.2 dX6_ifPassed_135
              · refine lv_iload_n hx hb dX6_ifPassed_55 rfl (lv_at hl 3 rfl) ?_
                refine lv_tableOut (tgt := 136) hx hb dX6_ifPassed_56 (by decide) (by decide) ?_
                refine lv_aload_n hx hb dX6_ifPassed_136 rfl (lv_at hl 1 rfl) ?_
                refine xg_get (κ := 16) (ci := 6) (C := RX6) (T := TX6) (N := 6) hx hb hts inX6 hown hK hW hτ (by decide) rfl rfl 1 (by decide) (hts (.fieldLink RX6 16 "HalfTickets" "trial" "LHalfTickets$Ministry;") (List.mem_of_getElem? (i := 1) (by decide +kernel))) (fun _ h9 => h9) rfl dX6_ifPassed_137 ?_
                refine xc_i (xr_V (As := []) (rest := []) (κ := 1) ⟨hx, hb, hml, hown, hts⟩ (c_X2_timesSentBack l O z37 (b + 83) (O.b2 hτ)) (cwV 0 hts gX6_ifPassed_X2_timesSentBack rfl rfl rfl (by decide +kernel) ⟨Nat.le_of_ble_eq_true rfl, Nat.le_of_ble_eq_true rfl⟩) hK hst hnw hS hW (O.b2 hτ) (by decide) rfl rfl rfl hl.1 rfl (Nat.le_of_ble_eq_true rfl) dX6_ifPassed_140 ⟨Nat.zero_le _, Nat.zero_le _⟩) hS (fun r_29 M_27 H locs hq_28 hW hS => ?_)
                obtain ⟨hq_28a, hq_28b⟩ := hq_28
                rw [hq_28b] at hW
                rw [hq_28a]
                rw [xf_sum_0 (fun k hk => by rw [Nat.add_assoc (b + 83) (2 * k) 34, hrow _ _ (by omega) (by decide) (by decide), ← Nat.add_assoc]; exact (hF.2.2.2.2.2.1 k hk).2.2)]
                refine lv_aload_n hx hb dX6_ifPassed_143 rfl (lv_at hl 1 rfl) ?_
                refine xg_get (κ := 16) (ci := 6) (C := RX6) (T := TX6) (N := 6) hx hb hts inX6 hown hK hW hτ (by decide) rfl rfl 0 (by decide) (hts (.fieldLink RX6 10 "HalfTickets" "now" "LHalfTickets$Ministry;") (List.mem_of_getElem? (i := 2) (by decide +kernel))) (fun _ h9 => h9) rfl dX6_ifPassed_144 ?_
                refine xc_i (xr_V (As := []) (rest := [.int (nI 0)]) (κ := 1) ⟨hx, hb, hml, hown, hts⟩ (c_X2_timesSentBack l O z37 (b + 1) (O.b1 hτ)) (cwV 0 hts gX6_ifPassed_X2_timesSentBack rfl rfl rfl (by decide +kernel) ⟨Nat.le_of_ble_eq_true rfl, Nat.le_of_ble_eq_true rfl⟩) hK hst hnw hS hW (O.b1 hτ) (by decide) rfl rfl rfl hl.1 rfl (Nat.le_of_ble_eq_true rfl) dX6_ifPassed_147 ⟨Nat.zero_le _, Nat.zero_le _⟩) hS (fun r_32 M_30 H locs hq_31 hW hS => ?_)
                obtain ⟨hq_31a, hq_31b⟩ := hq_31
                rw [hq_31b] at hW
                rw [hq_31a]
                rw [xf_sum_0 (fun k hk => by rw [Nat.add_assoc (b + 1) (2 * k) 34, hnow _ _ (by omega), ← Nat.add_assoc]; exact (hF.2.2.2.2.2.1 k hk).2.2)]
                refine lv_isub hx hb dX6_ifPassed_150 ?_
                exact W.iret (v := ((nI 0) - (nI 0))) hx hb hr (fun t ht hWm => ⟨⟨((nI 0) - (nI 0)), z37, rfl, (show ((nI 0) - (nI 0)) = xa_ifp (nI k) (nI 3) by unfold xa_ifp; rw [if_neg c_1, if_pos c_2, if_neg c_3, if_pos c_4]; decide), xw_end ht hW⟩, hS.F ht⟩) hS.2.2 dX6_ifPassed_151
            · exact absurd (nI_le (Nat.le_refl _) (by omega)) c_8
          · obtain ⟨hW, hS, hl, hE37⟩ := hI
            refine lv_iload_n hx hb dX6_ifPassed_37 rfl (lv_at hl 0 rfl) ?_
            refine lv_iload_n hx hb dX6_ifPassed_38 rfl (lv_at hl 2 rfl) ?_
            refine lv_icmp_ge (tgt := 55) hx hb dX6_ifPassed_39 (by decide) (fun c_33 => ?_) (fun c_33 => ?_)
            · exact absurd c_33 (nI_ge hk37 (by omega))
            · refine lv_aload_n hx hb dX6_ifPassed_42 rfl (lv_at hl 1 rfl) ?_
              refine xg_get (κ := 16) (ci := 6) (C := RX6) (T := TX6) (N := 6) hx hb hts inX6 hown hK hW hτ (by decide) rfl rfl 1 (by decide) (hts (.fieldLink RX6 16 "HalfTickets" "trial" "LHalfTickets$Ministry;") (List.mem_of_getElem? (i := 1) (by decide +kernel))) (fun _ h9 => h9) rfl dX6_ifPassed_43 ?_
              refine xc_v (xr_V (As := []) (rest := []) (κ := 1) ⟨hx, hb, hml, hown, hts⟩ (ce_X2_tick l O z37 (b + 83) (O.b2 hτ) (xe_keep hE37 hE1)) (cwV 0 hts gX6_ifPassed_X2_tick rfl rfl rfl (by decide +kernel) ⟨Nat.le_of_ble_eq_true rfl, Nat.le_of_ble_eq_true rfl⟩) hK hst hnw hS hW (O.b2 hτ) (by decide) rfl rfl rfl hl.1 rfl (Nat.le_of_ble_eq_true rfl) dX6_ifPassed_46 ⟨Nat.zero_le _, Nat.zero_le _⟩) hS (fun M_34 H locs hq_35 hW hS => ?_)
              have hq_t := hq_35
              refine lv_iinc (v := (nI (k37 + 1))) (lv' := [(3, .int (nI (k37 + 1))), (0, .ref b), (1, .int (nI k)), (2, .int (nI j))]) hx hb dX6_ifPassed_49 hl (k := 0) rfl ((nI_1 k37)) (by decide) rfl (fun ls hl => ?_)
              refine lv_goto (tgt := 37) hx hb dX6_ifPassed_52 (by decide) ?_
              exact ih37 M_34 _ _ _ ⟨hW, hS, lv_sub hl [0, 1, 2, 3] rfl, (xe_tr hE37 hq_t)⟩
        · have hres : (-2 : Int32) = xa_ifp t v := by unfold xa_ifp; rw [if_neg c_1, if_pos c_2, if_neg c_3, if_neg c_4]
          refine lv_bipush (v := (-2)) hx hb dX6_ifPassed_21 (by decide) ?_
          exact W.iret (v := (-2)) hx hb hr (fun t ht hWm => ⟨⟨(-2), M, rfl, hres, xw_end ht hW⟩, hS.F ht⟩) hS.2.2 dX6_ifPassed_23

set_option maxHeartbeats 4000000 in
set_option maxRecDepth 100000 in
/-- doneWithOneMoreAt(i), nobody is there -/
theorem ce_X6_done (l : Launch) {G : va_G} {g : Nat → ClassId} {t0 τ : Nat → Nat} {A : Nat → Prop} (O : xk_O τ A) (M : xm_T) (b : Nat) (hτ : τ b = 16) (M0 : xm_T) (hM : ∀ x, x < b + 83 ∨ b + 165 ≤ x → M x = M0 x) (hN0 : ∀ k, k < 24 → M (b + 83 + 2 * k + 34) 0 = M (b + 1 + 2 * k + 34) 0) (hE0 : xe_E M (b + 1)) (i : Int32) : Met l yX6_doneWithOneMoreAt wsX6_doneWithOneMoreAt ({ frames := 4, cells := 0, slots := 0, locals := 130 }) (va_Pc [.ref b, .int i] (xS_t G g t0 τ A M)) (va_Qi (fun r M' => r = nI 0 ∧ (∀ x, x < b + 83 ∨ b + 165 ≤ x → M' x = M0 x) ∧ (∀ k, k < 24 → M' (b + 83 + 2 * k + 34) 0 = M' (b + 1 + 2 * k + 34) 0)) (fun M' t => xw_D G g τ M' t.heap) A) 0 0 A := by
  refine Met.ofW (cc := cX6_doneWithOneMoreAt) (maxL := 4) (ret := (some .int)) (by decide) rfl ?_
  intro p e s m args below meth c s₁ B hml hv
  obtain ⟨rfl, hW, hK, hst, hnw⟩ := hv
  have hx := B.exec
  have hb := B.bytes
  have hr := B.returns
  have hts := atoms_spec (ws := wsX6_doneWithOneMoreAt) B.pre
  have hown : s.vm.findClass RX6 = some m.cls := findClass_of_methodNamed B.named
  have hlocks := B.notSynchronized
  have hS : va_S A s.heap s.heap [] := va_S.rf
  have inX5 : ∀ w ∈ u_ws RX5 TX5 7, w ∈ wsX6_doneWithOneMoreAt := by decide +kernel
  have inX6 : ∀ w ∈ u_ws RX6 TX6 6, w ∈ wsX6_doneWithOneMoreAt := by decide +kernel
  have hl := lv_entry ([.ref b, .int i]) (n := 4) (Nat.le_of_ble_eq_true rfl)
  rw [lg_entry_eq]
  generalize (lg_sl ([.ref b, .int i]) ++ List.replicate (4 - (lg_sl ([.ref b, .int i])).length) Slot.unset).toArray = ls at hl ⊢
  have hl : lv_has ls 4 [(0, .ref b), (1, .int i)] := hl
  rcases pk_ix i (n := 6) (by omega) with hlo | hhi | ⟨k, hk, rfl⟩
  · refine lv_aload_n hx hb dX6_doneWithOneMoreAt_0 rfl (lv_at hl 0 rfl) ?_
    refine xg_get (κ := 16) (ci := 6) (C := RX6) (T := TX6) (N := 6) hx hb hts inX6 hown hK hW hτ (by decide) rfl rfl 1 (by decide) (hts (.fieldLink RX6 16 "HalfTickets" "trial" "LHalfTickets$Ministry;") (List.mem_of_getElem? (i := 1) (by decide +kernel))) (fun _ h9 => h9) rfl dX6_doneWithOneMoreAt_1 ?_
    refine lv_aload_n hx hb dX6_doneWithOneMoreAt_4 rfl (lv_at hl 0 rfl) ?_
    refine xg_get (κ := 16) (ci := 6) (C := RX6) (T := TX6) (N := 6) hx hb hts inX6 hown hK hW hτ (by decide) rfl rfl 0 (by decide) (hts (.fieldLink RX6 10 "HalfTickets" "now" "LHalfTickets$Ministry;") (List.mem_of_getElem? (i := 2) (by decide +kernel))) (fun _ h9 => h9) rfl dX6_doneWithOneMoreAt_5 ?_
    refine xc_v (xr_V (As := [.ref (b + 1)]) (rest := []) (κ := 1) ⟨hx, hb, hml, hown, hts⟩ (c_X2_become l O M (b + 83) (b + 1) (O.b2 hτ) (O.b1 hτ) (by omega) hN0) (cwV 1 hts gX6_doneWithOneMoreAt_X2_become rfl rfl rfl (by decide +kernel) ⟨Nat.le_of_ble_eq_true rfl, Nat.le_of_ble_eq_true rfl⟩) hK hst hnw hS hW (O.b2 hτ) (by decide) rfl rfl rfl hl.1 rfl (Nat.le_of_ble_eq_true rfl) dX6_doneWithOneMoreAt_8 ⟨Nat.zero_le _, Nat.zero_le _⟩) hS (fun M_1 H locs hq_2 hW hS => ?_)
    have hE1 : xe_E M_1 (b + 83) := by rw [hq_2]; exact xe_cp (by omega) hE0
    have ho : ∀ x, x < b + 83 ∨ b + 165 ≤ x → M_1 x = M0 x := fun x hx => by rw [hq_2, xf_out (by omega)]; exact hM x hx
    have hn1 : ∀ k, k < 24 → M_1 (b + 83 + 2 * k + 34) 0 = M_1 (b + 1 + 2 * k + 34) 0 := fun k hk => by rw [hq_2, xf_in (by omega), xf_out (by omega)]; congr 1; omega
    refine lv_aload_n hx hb dX6_doneWithOneMoreAt_11 rfl (lv_at hl 0 rfl) ?_
    refine xg_get (κ := 16) (ci := 6) (C := RX6) (T := TX6) (N := 6) hx hb hts inX6 hown hK hW hτ (by decide) rfl rfl 1 (by decide) (hts (.fieldLink RX6 16 "HalfTickets" "trial" "LHalfTickets$Ministry;") (List.mem_of_getElem? (i := 1) (by decide +kernel))) (fun _ h9 => h9) rfl dX6_doneWithOneMoreAt_12 ?_
    refine lv_iload_n hx hb dX6_doneWithOneMoreAt_15 rfl (lv_at hl 1 rfl) ?_
    refine xc_q (xr_V (As := [.int i]) (rest := []) (κ := 1) ⟨hx, hb, hml, hown, hts⟩ (c_X2_windowAt l O M_1 (b + 83) (O.b2 hτ) i) (cwV 1 hts gX6_doneWithOneMoreAt_X2_windowAt rfl rfl rfl (by decide +kernel) ⟨Nat.le_of_ble_eq_true rfl, Nat.le_of_ble_eq_true rfl⟩) hK hst hnw hS hW (O.b2 hτ) (by decide) rfl rfl rfl hl.1 rfl (Nat.le_of_ble_eq_true rfl) dX6_doneWithOneMoreAt_16 ⟨Nat.zero_le _, Nat.zero_le _⟩) hS (fun r_6 M_4 H locs hq_5 hW hS => ?_)
    obtain ⟨hq_5a, hq_5b⟩ := hq_5
    rw [hq_5b] at hW
    rw [hq_5a]
    rw [xf_win_n _ (Or.inl hlo)]
    refine W.eq (g2 := F0 m 19 ls [.null]) rfl ?_
    refine lv_astore_nN (lv' := [(2, .null), (0, .ref b), (1, .int i)]) hx hb dX6_doneWithOneMoreAt_19 rfl hl (by decide) rfl (fun ls hl => ?_)
    refine lv_aload_nN hx hb dX6_doneWithOneMoreAt_20 rfl (lv_at hl 0 rfl) ?_
    refine lv_ifnullN (tgt := 34) hx hb dX6_doneWithOneMoreAt_21 (by decide) ?_
    have hE2 := hE1
    have ho2 := ho
    have hn2 := hn1
    refine lv_iconst (v := (nI 0)) hx hb dX6_doneWithOneMoreAt_34 (by decide) ?_
    refine lv_istore_n (lv' := [(3, .int (nI 0)), (2, .null), (0, .ref b), (1, .int i)]) hx hb dX6_doneWithOneMoreAt_35 rfl hl (by decide) rfl (fun ls hl => ?_)
    refine xl_up (σ := xm_T) 50 (fun kk zz H locs ls => xw_D G g τ zz H ∧ va_S A s.heap H locs ∧ lv_has ls 4 [(3, .int (nI kk)), (0, .ref b)] ∧ xe_R (b + 83) M_1 zz) (fun z36 H locs ls hI => ?_) (fun k36 z36 H locs ls hk36 hI ih36 => ?_) (k0 := 0) (z0 := M_1) (Nat.zero_le _) ⟨hW, hS, lv_sub hl [0, 2] rfl, (xe_rf _ _)⟩
    · obtain ⟨hW, hS, hl, hE36⟩ := hI
      refine lv_iload_n hx hb dX6_doneWithOneMoreAt_36 rfl (lv_at hl 0 rfl) ?_
      refine lv_bipush (v := (nI 50)) hx hb dX6_doneWithOneMoreAt_37 (by decide) ?_
      refine lv_icmp_ge (tgt := 55) hx hb dX6_doneWithOneMoreAt_39 (by decide) (fun c_7 => ?_) (fun c_7 => ?_)
      · refine lv_aload_n hx hb dX6_doneWithOneMoreAt_55 rfl (lv_at hl 1 rfl) ?_
        refine xg_get (κ := 16) (ci := 6) (C := RX6) (T := TX6) (N := 6) hx hb hts inX6 hown hK hW hτ (by decide) rfl rfl 1 (by decide) (hts (.fieldLink RX6 16 "HalfTickets" "trial" "LHalfTickets$Ministry;") (List.mem_of_getElem? (i := 1) (by decide +kernel))) (fun _ h9 => h9) rfl dX6_doneWithOneMoreAt_56 ?_
        refine lv_iconst (v := (nI 2)) hx hb dX6_doneWithOneMoreAt_59 (by decide) ?_
        refine xc_i (xr_V (As := [.int (nI 2)]) (rest := []) (κ := 1) ⟨hx, hb, hml, hown, hts⟩ (c_X2_peopleWho l O z36 (b + 83) (O.b2 hτ) (nI 2)) (cwV 1 hts gX6_doneWithOneMoreAt_X2_peopleWho rfl rfl rfl (by decide +kernel) ⟨Nat.le_of_ble_eq_true rfl, Nat.le_of_ble_eq_true rfl⟩) hK hst hnw hS hW (O.b2 hτ) (by decide) rfl rfl rfl hl.1 rfl (Nat.le_of_ble_eq_true rfl) dX6_doneWithOneMoreAt_60 ⟨Nat.zero_le _, Nat.zero_le _⟩) hS (fun r_10 M_8 H locs hq_9 hW hS => ?_)
        obtain ⟨hq_9a, hq_9b⟩ := hq_9
        rw [hq_9b] at hW
        rw [hq_9a]
        rw [xe_pw (xe_keep hE36 hE2) (by decide)]
        exact W.iret (v := (nI 0)) hx hb hr (fun t ht hWm => ⟨⟨(nI 0), z36, rfl, ⟨rfl, fun x hx => by funext j; rw [xe_at' hE36 (by omega) rfl, ho2 x hx], fun j hj => by rw [xe_at hE36 (by decide) (Or.inr (by decide)), xe_at hE36 (by decide) (Or.inr (by decide))]; exact hn2 j hj⟩, xw_end ht hW⟩, hS.F ht⟩) hS.2.2 dX6_doneWithOneMoreAt_63
      · exact absurd (nI_le (Nat.le_refl _) (by decide)) c_7
    · obtain ⟨hW, hS, hl, hE36⟩ := hI
      refine lv_iload_n hx hb dX6_doneWithOneMoreAt_36 rfl (lv_at hl 0 rfl) ?_
      refine lv_bipush (v := (nI 50)) hx hb dX6_doneWithOneMoreAt_37 (by decide) ?_
      refine lv_icmp_ge (tgt := 55) hx hb dX6_doneWithOneMoreAt_39 (by decide) (fun c_11 => ?_) (fun c_11 => ?_)
      · exact absurd c_11 (nI_ge hk36 (by decide))
      · refine lv_aload_n hx hb dX6_doneWithOneMoreAt_42 rfl (lv_at hl 1 rfl) ?_
        refine xg_get (κ := 16) (ci := 6) (C := RX6) (T := TX6) (N := 6) hx hb hts inX6 hown hK hW hτ (by decide) rfl rfl 1 (by decide) (hts (.fieldLink RX6 16 "HalfTickets" "trial" "LHalfTickets$Ministry;") (List.mem_of_getElem? (i := 1) (by decide +kernel))) (fun _ h9 => h9) rfl dX6_doneWithOneMoreAt_43 ?_
        refine xc_v (xr_V (As := []) (rest := []) (κ := 1) ⟨hx, hb, hml, hown, hts⟩ (ce_X2_tick l O z36 (b + 83) (O.b2 hτ) (xe_keep hE36 hE2)) (cwV 0 hts gX6_doneWithOneMoreAt_X2_tick rfl rfl rfl (by decide +kernel) ⟨Nat.le_of_ble_eq_true rfl, Nat.le_of_ble_eq_true rfl⟩) hK hst hnw hS hW (O.b2 hτ) (by decide) rfl rfl rfl hl.1 rfl (Nat.le_of_ble_eq_true rfl) dX6_doneWithOneMoreAt_46 ⟨Nat.zero_le _, Nat.zero_le _⟩) hS (fun M_12 H locs hq_13 hW hS => ?_)
        have hq_t := hq_13
        refine lv_iinc (v := (nI (k36 + 1))) (lv' := [(3, .int (nI (k36 + 1))), (0, .ref b)]) hx hb dX6_doneWithOneMoreAt_49 hl (k := 0) rfl ((nI_1 k36)) (by decide) rfl (fun ls hl => ?_)
        refine lv_goto (tgt := 36) hx hb dX6_doneWithOneMoreAt_52 (by decide) ?_
        exact ih36 M_12 _ _ _ ⟨hW, hS, lv_sub hl [0, 1] rfl, (xe_tr hE36 hq_t)⟩
  · refine lv_aload_n hx hb dX6_doneWithOneMoreAt_0 rfl (lv_at hl 0 rfl) ?_
    refine xg_get (κ := 16) (ci := 6) (C := RX6) (T := TX6) (N := 6) hx hb hts inX6 hown hK hW hτ (by decide) rfl rfl 1 (by decide) (hts (.fieldLink RX6 16 "HalfTickets" "trial" "LHalfTickets$Ministry;") (List.mem_of_getElem? (i := 1) (by decide +kernel))) (fun _ h9 => h9) rfl dX6_doneWithOneMoreAt_1 ?_
    refine lv_aload_n hx hb dX6_doneWithOneMoreAt_4 rfl (lv_at hl 0 rfl) ?_
    refine xg_get (κ := 16) (ci := 6) (C := RX6) (T := TX6) (N := 6) hx hb hts inX6 hown hK hW hτ (by decide) rfl rfl 0 (by decide) (hts (.fieldLink RX6 10 "HalfTickets" "now" "LHalfTickets$Ministry;") (List.mem_of_getElem? (i := 2) (by decide +kernel))) (fun _ h9 => h9) rfl dX6_doneWithOneMoreAt_5 ?_
    refine xc_v (xr_V (As := [.ref (b + 1)]) (rest := []) (κ := 1) ⟨hx, hb, hml, hown, hts⟩ (c_X2_become l O M (b + 83) (b + 1) (O.b2 hτ) (O.b1 hτ) (by omega) hN0) (cwV 1 hts gX6_doneWithOneMoreAt_X2_become rfl rfl rfl (by decide +kernel) ⟨Nat.le_of_ble_eq_true rfl, Nat.le_of_ble_eq_true rfl⟩) hK hst hnw hS hW (O.b2 hτ) (by decide) rfl rfl rfl hl.1 rfl (Nat.le_of_ble_eq_true rfl) dX6_doneWithOneMoreAt_8 ⟨Nat.zero_le _, Nat.zero_le _⟩) hS (fun M_15 H locs hq_16 hW hS => ?_)
    have hE1 : xe_E M_15 (b + 83) := by rw [hq_16]; exact xe_cp (by omega) hE0
    have ho : ∀ x, x < b + 83 ∨ b + 165 ≤ x → M_15 x = M0 x := fun x hx => by rw [hq_16, xf_out (by omega)]; exact hM x hx
    have hn1 : ∀ k, k < 24 → M_15 (b + 83 + 2 * k + 34) 0 = M_15 (b + 1 + 2 * k + 34) 0 := fun k hk => by rw [hq_16, xf_in (by omega), xf_out (by omega)]; congr 1; omega
    refine lv_aload_n hx hb dX6_doneWithOneMoreAt_11 rfl (lv_at hl 0 rfl) ?_
    refine xg_get (κ := 16) (ci := 6) (C := RX6) (T := TX6) (N := 6) hx hb hts inX6 hown hK hW hτ (by decide) rfl rfl 1 (by decide) (hts (.fieldLink RX6 16 "HalfTickets" "trial" "LHalfTickets$Ministry;") (List.mem_of_getElem? (i := 1) (by decide +kernel))) (fun _ h9 => h9) rfl dX6_doneWithOneMoreAt_12 ?_
    refine lv_iload_n hx hb dX6_doneWithOneMoreAt_15 rfl (lv_at hl 1 rfl) ?_
    refine xc_q (xr_V (As := [.int i]) (rest := []) (κ := 1) ⟨hx, hb, hml, hown, hts⟩ (c_X2_windowAt l O M_15 (b + 83) (O.b2 hτ) i) (cwV 1 hts gX6_doneWithOneMoreAt_X2_windowAt rfl rfl rfl (by decide +kernel) ⟨Nat.le_of_ble_eq_true rfl, Nat.le_of_ble_eq_true rfl⟩) hK hst hnw hS hW (O.b2 hτ) (by decide) rfl rfl rfl hl.1 rfl (Nat.le_of_ble_eq_true rfl) dX6_doneWithOneMoreAt_16 ⟨Nat.zero_le _, Nat.zero_le _⟩) hS (fun r_20 M_18 H locs hq_19 hW hS => ?_)
    obtain ⟨hq_19a, hq_19b⟩ := hq_19
    rw [hq_19b] at hW
    rw [hq_19a]
    rw [xf_win_n _ (Or.inr hhi)]
    refine W.eq (g2 := F0 m 19 ls [.null]) rfl ?_
    refine lv_astore_nN (lv' := [(2, .null), (0, .ref b), (1, .int i)]) hx hb dX6_doneWithOneMoreAt_19 rfl hl (by decide) rfl (fun ls hl => ?_)
    refine lv_aload_nN hx hb dX6_doneWithOneMoreAt_20 rfl (lv_at hl 0 rfl) ?_
    refine lv_ifnullN (tgt := 34) hx hb dX6_doneWithOneMoreAt_21 (by decide) ?_
    have hE2 := hE1
    have ho2 := ho
    have hn2 := hn1
    refine lv_iconst (v := (nI 0)) hx hb dX6_doneWithOneMoreAt_34 (by decide) ?_
    refine lv_istore_n (lv' := [(3, .int (nI 0)), (2, .null), (0, .ref b), (1, .int i)]) hx hb dX6_doneWithOneMoreAt_35 rfl hl (by decide) rfl (fun ls hl => ?_)
    refine xl_up (σ := xm_T) 50 (fun kk zz H locs ls => xw_D G g τ zz H ∧ va_S A s.heap H locs ∧ lv_has ls 4 [(3, .int (nI kk)), (0, .ref b)] ∧ xe_R (b + 83) M_15 zz) (fun z36 H locs ls hI => ?_) (fun k36 z36 H locs ls hk36 hI ih36 => ?_) (k0 := 0) (z0 := M_15) (Nat.zero_le _) ⟨hW, hS, lv_sub hl [0, 2] rfl, (xe_rf _ _)⟩
    · obtain ⟨hW, hS, hl, hE36⟩ := hI
      refine lv_iload_n hx hb dX6_doneWithOneMoreAt_36 rfl (lv_at hl 0 rfl) ?_
      refine lv_bipush (v := (nI 50)) hx hb dX6_doneWithOneMoreAt_37 (by decide) ?_
      refine lv_icmp_ge (tgt := 55) hx hb dX6_doneWithOneMoreAt_39 (by decide) (fun c_21 => ?_) (fun c_21 => ?_)
      · refine lv_aload_n hx hb dX6_doneWithOneMoreAt_55 rfl (lv_at hl 1 rfl) ?_
        refine xg_get (κ := 16) (ci := 6) (C := RX6) (T := TX6) (N := 6) hx hb hts inX6 hown hK hW hτ (by decide) rfl rfl 1 (by decide) (hts (.fieldLink RX6 16 "HalfTickets" "trial" "LHalfTickets$Ministry;") (List.mem_of_getElem? (i := 1) (by decide +kernel))) (fun _ h9 => h9) rfl dX6_doneWithOneMoreAt_56 ?_
        refine lv_iconst (v := (nI 2)) hx hb dX6_doneWithOneMoreAt_59 (by decide) ?_
        refine xc_i (xr_V (As := [.int (nI 2)]) (rest := []) (κ := 1) ⟨hx, hb, hml, hown, hts⟩ (c_X2_peopleWho l O z36 (b + 83) (O.b2 hτ) (nI 2)) (cwV 1 hts gX6_doneWithOneMoreAt_X2_peopleWho rfl rfl rfl (by decide +kernel) ⟨Nat.le_of_ble_eq_true rfl, Nat.le_of_ble_eq_true rfl⟩) hK hst hnw hS hW (O.b2 hτ) (by decide) rfl rfl rfl hl.1 rfl (Nat.le_of_ble_eq_true rfl) dX6_doneWithOneMoreAt_60 ⟨Nat.zero_le _, Nat.zero_le _⟩) hS (fun r_24 M_22 H locs hq_23 hW hS => ?_)
        obtain ⟨hq_23a, hq_23b⟩ := hq_23
        rw [hq_23b] at hW
        rw [hq_23a]
        rw [xe_pw (xe_keep hE36 hE2) (by decide)]
        exact W.iret (v := (nI 0)) hx hb hr (fun t ht hWm => ⟨⟨(nI 0), z36, rfl, ⟨rfl, fun x hx => by funext j; rw [xe_at' hE36 (by omega) rfl, ho2 x hx], fun j hj => by rw [xe_at hE36 (by decide) (Or.inr (by decide)), xe_at hE36 (by decide) (Or.inr (by decide))]; exact hn2 j hj⟩, xw_end ht hW⟩, hS.F ht⟩) hS.2.2 dX6_doneWithOneMoreAt_63
      · exact absurd (nI_le (Nat.le_refl _) (by decide)) c_21
    · obtain ⟨hW, hS, hl, hE36⟩ := hI
      refine lv_iload_n hx hb dX6_doneWithOneMoreAt_36 rfl (lv_at hl 0 rfl) ?_
      refine lv_bipush (v := (nI 50)) hx hb dX6_doneWithOneMoreAt_37 (by decide) ?_
      refine lv_icmp_ge (tgt := 55) hx hb dX6_doneWithOneMoreAt_39 (by decide) (fun c_25 => ?_) (fun c_25 => ?_)
      · exact absurd c_25 (nI_ge hk36 (by decide))
      · refine lv_aload_n hx hb dX6_doneWithOneMoreAt_42 rfl (lv_at hl 1 rfl) ?_
        refine xg_get (κ := 16) (ci := 6) (C := RX6) (T := TX6) (N := 6) hx hb hts inX6 hown hK hW hτ (by decide) rfl rfl 1 (by decide) (hts (.fieldLink RX6 16 "HalfTickets" "trial" "LHalfTickets$Ministry;") (List.mem_of_getElem? (i := 1) (by decide +kernel))) (fun _ h9 => h9) rfl dX6_doneWithOneMoreAt_43 ?_
        refine xc_v (xr_V (As := []) (rest := []) (κ := 1) ⟨hx, hb, hml, hown, hts⟩ (ce_X2_tick l O z36 (b + 83) (O.b2 hτ) (xe_keep hE36 hE2)) (cwV 0 hts gX6_doneWithOneMoreAt_X2_tick rfl rfl rfl (by decide +kernel) ⟨Nat.le_of_ble_eq_true rfl, Nat.le_of_ble_eq_true rfl⟩) hK hst hnw hS hW (O.b2 hτ) (by decide) rfl rfl rfl hl.1 rfl (Nat.le_of_ble_eq_true rfl) dX6_doneWithOneMoreAt_46 ⟨Nat.zero_le _, Nat.zero_le _⟩) hS (fun M_26 H locs hq_27 hW hS => ?_)
        have hq_t := hq_27
        refine lv_iinc (v := (nI (k36 + 1))) (lv' := [(3, .int (nI (k36 + 1))), (0, .ref b)]) hx hb dX6_doneWithOneMoreAt_49 hl (k := 0) rfl ((nI_1 k36)) (by decide) rfl (fun ls hl => ?_)
        refine lv_goto (tgt := 36) hx hb dX6_doneWithOneMoreAt_52 (by decide) ?_
        exact ih36 M_26 _ _ _ ⟨hW, hS, lv_sub hl [0, 1] rfl, (xe_tr hE36 hq_t)⟩
  · refine lv_aload_n hx hb dX6_doneWithOneMoreAt_0 rfl (lv_at hl 0 rfl) ?_
    refine xg_get (κ := 16) (ci := 6) (C := RX6) (T := TX6) (N := 6) hx hb hts inX6 hown hK hW hτ (by decide) rfl rfl 1 (by decide) (hts (.fieldLink RX6 16 "HalfTickets" "trial" "LHalfTickets$Ministry;") (List.mem_of_getElem? (i := 1) (by decide +kernel))) (fun _ h9 => h9) rfl dX6_doneWithOneMoreAt_1 ?_
    refine lv_aload_n hx hb dX6_doneWithOneMoreAt_4 rfl (lv_at hl 0 rfl) ?_
    refine xg_get (κ := 16) (ci := 6) (C := RX6) (T := TX6) (N := 6) hx hb hts inX6 hown hK hW hτ (by decide) rfl rfl 0 (by decide) (hts (.fieldLink RX6 10 "HalfTickets" "now" "LHalfTickets$Ministry;") (List.mem_of_getElem? (i := 2) (by decide +kernel))) (fun _ h9 => h9) rfl dX6_doneWithOneMoreAt_5 ?_
    refine xc_v (xr_V (As := [.ref (b + 1)]) (rest := []) (κ := 1) ⟨hx, hb, hml, hown, hts⟩ (c_X2_become l O M (b + 83) (b + 1) (O.b2 hτ) (O.b1 hτ) (by omega) hN0) (cwV 1 hts gX6_doneWithOneMoreAt_X2_become rfl rfl rfl (by decide +kernel) ⟨Nat.le_of_ble_eq_true rfl, Nat.le_of_ble_eq_true rfl⟩) hK hst hnw hS hW (O.b2 hτ) (by decide) rfl rfl rfl hl.1 rfl (Nat.le_of_ble_eq_true rfl) dX6_doneWithOneMoreAt_8 ⟨Nat.zero_le _, Nat.zero_le _⟩) hS (fun M_29 H locs hq_30 hW hS => ?_)
    have hE1 : xe_E M_29 (b + 83) := by rw [hq_30]; exact xe_cp (by omega) hE0
    have ho : ∀ x, x < b + 83 ∨ b + 165 ≤ x → M_29 x = M0 x := fun x hx => by rw [hq_30, xf_out (by omega)]; exact hM x hx
    have hn1 : ∀ k, k < 24 → M_29 (b + 83 + 2 * k + 34) 0 = M_29 (b + 1 + 2 * k + 34) 0 := fun k hk => by rw [hq_30, xf_in (by omega), xf_out (by omega)]; congr 1; omega
    refine lv_aload_n hx hb dX6_doneWithOneMoreAt_11 rfl (lv_at hl 0 rfl) ?_
    refine xg_get (κ := 16) (ci := 6) (C := RX6) (T := TX6) (N := 6) hx hb hts inX6 hown hK hW hτ (by decide) rfl rfl 1 (by decide) (hts (.fieldLink RX6 16 "HalfTickets" "trial" "LHalfTickets$Ministry;") (List.mem_of_getElem? (i := 1) (by decide +kernel))) (fun _ h9 => h9) rfl dX6_doneWithOneMoreAt_12 ?_
    refine lv_iload_n hx hb dX6_doneWithOneMoreAt_15 rfl (lv_at hl 1 rfl) ?_
    refine xc_q (xr_V (As := [.int (nI k)]) (rest := []) (κ := 1) ⟨hx, hb, hml, hown, hts⟩ (c_X2_windowAt l O M_29 (b + 83) (O.b2 hτ) (nI k)) (cwV 1 hts gX6_doneWithOneMoreAt_X2_windowAt rfl rfl rfl (by decide +kernel) ⟨Nat.le_of_ble_eq_true rfl, Nat.le_of_ble_eq_true rfl⟩) hK hst hnw hS hW (O.b2 hτ) (by decide) rfl rfl rfl hl.1 rfl (Nat.le_of_ble_eq_true rfl) dX6_doneWithOneMoreAt_16 ⟨Nat.zero_le _, Nat.zero_le _⟩) hS (fun r_34 M_32 H locs hq_33 hW hS => ?_)
    obtain ⟨hq_33a, hq_33b⟩ := hq_33
    rw [hq_33b] at hW
    rw [hq_33a]
    rw [xf_win_s _ hk]
    refine W.eq (g2 := F0 m 19 ls [.ref ((b + 83) + 5 * k + 4)]) rfl ?_
    refine lv_astore_n (lv' := [(2, .ref ((b + 83) + 5 * k + 4)), (0, .ref b), (1, .int (nI k))]) hx hb dX6_doneWithOneMoreAt_19 rfl hl (by decide) rfl (fun ls hl => ?_)
    refine lv_aload_n hx hb dX6_doneWithOneMoreAt_20 rfl (lv_at hl 0 rfl) ?_
    refine lv_ifnull hx hb dX6_doneWithOneMoreAt_21 ?_
    refine lv_aload_n hx hb dX6_doneWithOneMoreAt_24 rfl (lv_at hl 0 rfl) ?_
    refine lv_dup hx hb dX6_doneWithOneMoreAt_25 rfl ?_
    refine xg_get (κ := 5) (ci := 5) (C := RX5) (T := TX5) (N := 7) hx hb hts inX5 hown hK hW (O.w (O.b2 hτ) hk) (by decide) rfl rfl 1 (by decide) (hts (.fieldLink RX6 72 "HalfTickets$Window" "clerks" "I") (List.mem_of_getElem? (i := 3) (by decide +kernel))) (fun _ h9 => h9) rfl dX6_doneWithOneMoreAt_26 ?_
    refine lv_iconst (v := (nI 1)) hx hb dX6_doneWithOneMoreAt_29 (by decide) ?_
    refine lv_iadd hx hb dX6_doneWithOneMoreAt_30 ?_
    refine xg_put (κ := 5) (ci := 5) (C := RX5) (T := TX5) (N := 7) hx hb hts inX5 tyX5 tyX5_ok nmX5 hown hK O hW hS (O.w (O.b2 hτ) hk) (by decide) rfl rfl 1 (by decide) (v := ((M_29 ((b + 83) + 5 * k + 4) 1) + (nI 1))) rfl (xw_okp hW (O.w (O.b2 hτ) hk) (by decide)) (hts (.fieldLink RX6 72 "HalfTickets$Window" "clerks" "I") (List.mem_of_getElem? (i := 3) (by decide +kernel))) (fun _ h9 => h9) rfl (ty := .int) (by decide +kernel) rfl rfl (Nat.le_of_ble_eq_true rfl) dX6_doneWithOneMoreAt_31 (fun H locs hW hS => ?_)
    obtain ⟨M_35, eM_35⟩ : ∃ M9, M9 = xu_p M_29 ((b + 83) + 5 * k + 4) 1 ((M_29 ((b + 83) + 5 * k + 4) 1) + (nI 1)) := ⟨_, rfl⟩
    rw [← eM_35] at hW
    have hE2 : xe_E M_35 (b + 83) := ⟨fun w hw => ⟨by rw [eM_35, xu_n _ (Or.inl (by omega))]; exact (hE1.1 w hw).1, by rw [eM_35, xu_n _ (Or.inl (by omega))]; exact (hE1.1 w hw).2⟩, fun j hj => by rw [eM_35, xu_n _ (Or.inl (by omega))]; exact hE1.2 j hj⟩
    have ho2 : ∀ x, x < b + 83 ∨ b + 165 ≤ x → M_35 x = M0 x := fun x hx => by rw [eM_35, xu_p, xr_n _ _ (by omega)]; exact ho x hx
    have hn2 : ∀ j, j < 24 → M_35 (b + 83 + 2 * j + 34) 0 = M_35 (b + 1 + 2 * j + 34) 0 := fun j hj => by rw [eM_35, xu_n _ (Or.inl (by omega)), xu_n _ (Or.inl (by omega))]; exact hn1 j hj
    refine lv_iconst (v := (nI 0)) hx hb dX6_doneWithOneMoreAt_34 (by decide) ?_
    refine lv_istore_n (lv' := [(3, .int (nI 0)), (2, .ref ((b + 83) + 5 * k + 4)), (0, .ref b), (1, .int (nI k))]) hx hb dX6_doneWithOneMoreAt_35 rfl hl (by decide) rfl (fun ls hl => ?_)
    refine xl_up (σ := xm_T) 50 (fun kk zz H locs ls => xw_D G g τ zz H ∧ va_S A s.heap H locs ∧ lv_has ls 4 [(3, .int (nI kk)), (0, .ref b)] ∧ xe_R (b + 83) M_35 zz) (fun z36 H locs ls hI => ?_) (fun k36 z36 H locs ls hk36 hI ih36 => ?_) (k0 := 0) (z0 := M_35) (Nat.zero_le _) ⟨hW, hS, lv_sub hl [0, 2] rfl, (xe_rf _ _)⟩
    · obtain ⟨hW, hS, hl, hE36⟩ := hI
      refine lv_iload_n hx hb dX6_doneWithOneMoreAt_36 rfl (lv_at hl 0 rfl) ?_
      refine lv_bipush (v := (nI 50)) hx hb dX6_doneWithOneMoreAt_37 (by decide) ?_
      refine lv_icmp_ge (tgt := 55) hx hb dX6_doneWithOneMoreAt_39 (by decide) (fun c_36 => ?_) (fun c_36 => ?_)
      · refine lv_aload_n hx hb dX6_doneWithOneMoreAt_55 rfl (lv_at hl 1 rfl) ?_
        refine xg_get (κ := 16) (ci := 6) (C := RX6) (T := TX6) (N := 6) hx hb hts inX6 hown hK hW hτ (by decide) rfl rfl 1 (by decide) (hts (.fieldLink RX6 16 "HalfTickets" "trial" "LHalfTickets$Ministry;") (List.mem_of_getElem? (i := 1) (by decide +kernel))) (fun _ h9 => h9) rfl dX6_doneWithOneMoreAt_56 ?_
        refine lv_iconst (v := (nI 2)) hx hb dX6_doneWithOneMoreAt_59 (by decide) ?_
        refine xc_i (xr_V (As := [.int (nI 2)]) (rest := []) (κ := 1) ⟨hx, hb, hml, hown, hts⟩ (c_X2_peopleWho l O z36 (b + 83) (O.b2 hτ) (nI 2)) (cwV 1 hts gX6_doneWithOneMoreAt_X2_peopleWho rfl rfl rfl (by decide +kernel) ⟨Nat.le_of_ble_eq_true rfl, Nat.le_of_ble_eq_true rfl⟩) hK hst hnw hS hW (O.b2 hτ) (by decide) rfl rfl rfl hl.1 rfl (Nat.le_of_ble_eq_true rfl) dX6_doneWithOneMoreAt_60 ⟨Nat.zero_le _, Nat.zero_le _⟩) hS (fun r_39 M_37 H locs hq_38 hW hS => ?_)
        obtain ⟨hq_38a, hq_38b⟩ := hq_38
        rw [hq_38b] at hW
        rw [hq_38a]
        rw [xe_pw (xe_keep hE36 hE2) (by decide)]
        exact W.iret (v := (nI 0)) hx hb hr (fun t ht hWm => ⟨⟨(nI 0), z36, rfl, ⟨rfl, fun x hx => by funext j; rw [xe_at' hE36 (by omega) rfl, ho2 x hx], fun j hj => by rw [xe_at hE36 (by decide) (Or.inr (by decide)), xe_at hE36 (by decide) (Or.inr (by decide))]; exact hn2 j hj⟩, xw_end ht hW⟩, hS.F ht⟩) hS.2.2 dX6_doneWithOneMoreAt_63
      · exact absurd (nI_le (Nat.le_refl _) (by decide)) c_36
    · obtain ⟨hW, hS, hl, hE36⟩ := hI
      refine lv_iload_n hx hb dX6_doneWithOneMoreAt_36 rfl (lv_at hl 0 rfl) ?_
      refine lv_bipush (v := (nI 50)) hx hb dX6_doneWithOneMoreAt_37 (by decide) ?_
      refine lv_icmp_ge (tgt := 55) hx hb dX6_doneWithOneMoreAt_39 (by decide) (fun c_40 => ?_) (fun c_40 => ?_)
      · exact absurd c_40 (nI_ge hk36 (by decide))
      · refine lv_aload_n hx hb dX6_doneWithOneMoreAt_42 rfl (lv_at hl 1 rfl) ?_
        refine xg_get (κ := 16) (ci := 6) (C := RX6) (T := TX6) (N := 6) hx hb hts inX6 hown hK hW hτ (by decide) rfl rfl 1 (by decide) (hts (.fieldLink RX6 16 "HalfTickets" "trial" "LHalfTickets$Ministry;") (List.mem_of_getElem? (i := 1) (by decide +kernel))) (fun _ h9 => h9) rfl dX6_doneWithOneMoreAt_43 ?_
        refine xc_v (xr_V (As := []) (rest := []) (κ := 1) ⟨hx, hb, hml, hown, hts⟩ (ce_X2_tick l O z36 (b + 83) (O.b2 hτ) (xe_keep hE36 hE2)) (cwV 0 hts gX6_doneWithOneMoreAt_X2_tick rfl rfl rfl (by decide +kernel) ⟨Nat.le_of_ble_eq_true rfl, Nat.le_of_ble_eq_true rfl⟩) hK hst hnw hS hW (O.b2 hτ) (by decide) rfl rfl rfl hl.1 rfl (Nat.le_of_ble_eq_true rfl) dX6_doneWithOneMoreAt_46 ⟨Nat.zero_le _, Nat.zero_le _⟩) hS (fun M_41 H locs hq_42 hW hS => ?_)
        have hq_t := hq_42
        refine lv_iinc (v := (nI (k36 + 1))) (lv' := [(3, .int (nI (k36 + 1))), (0, .ref b)]) hx hb dX6_doneWithOneMoreAt_49 hl (k := 0) rfl ((nI_1 k36)) (by decide) rfl (fun ls hl => ?_)
        refine lv_goto (tgt := 36) hx hb dX6_doneWithOneMoreAt_52 (by decide) ?_
        exact ih36 M_41 _ _ _ ⟨hW, hS, lv_sub hl [0, 1] rfl, (xe_tr hE36 hq_t)⟩

set_option maxHeartbeats 4000000 in
set_option maxRecDepth 100000 in
/-- bestClerk on a new object -/
theorem cp_bestClerk (l : Launch) {G : va_G} {g : Nat → ClassId} {t0 τ : Nat → Nat} {A : Nat → Prop} (O : xk_O τ A) (M : xm_T) (b : Nat) (hτ : τ b = 16) (hF : xp_F M b) : Met l yX6_bestClerk wsX6_bestClerk ({ frames := 5, cells := 0, slots := 0, locals := 160 }) (va_Pc [.ref b] (xS_t G g t0 τ A M)) (va_Qi (fun r M' => r = -6) (fun M' t => xw_D G g τ M' t.heap) A) 0 0 A := by
  refine Met.ofW (cc := cX6_bestClerk) (maxL := 6) (ret := (some .int)) (by decide) rfl ?_
  intro p e s m args below meth c s₁ B hml hv
  obtain ⟨rfl, hW, hK, hst, hnw⟩ := hv
  have hx := B.exec
  have hb := B.bytes
  have hr := B.returns
  have hts := atoms_spec (ws := wsX6_bestClerk) B.pre
  have hown : s.vm.findClass RX6 = some m.cls := findClass_of_methodNamed B.named
  have hlocks := B.notSynchronized
  have hS : va_S A s.heap s.heap [] := va_S.rf
  have inX5 : ∀ w ∈ u_ws RX5 TX5 7, w ∈ wsX6_bestClerk := by decide +kernel
  have inX6 : ∀ w ∈ u_ws RX6 TX6 6, w ∈ wsX6_bestClerk := by decide +kernel
  have hl := lv_entry ([.ref b]) (n := 6) (Nat.le_of_ble_eq_true rfl)
  rw [lg_entry_eq]
  generalize (lg_sl ([.ref b]) ++ List.replicate (6 - (lg_sl ([.ref b])).length) Slot.unset).toArray = ls at hl ⊢
  have hl : lv_has ls 6 [(0, .ref b)] := hl
  refine lv_bipush (v := (-6)) hx hb dX6_bestClerk_0 (by decide) ?_
  refine lv_istore_n (lv' := [(1, .int (-6)), (0, .ref b)]) hx hb dX6_bestClerk_2 rfl hl (by decide) rfl (fun ls hl => ?_)
  refine lv_aload_n hx hb dX6_bestClerk_3 rfl (lv_at hl 1 rfl) ?_
  refine lv_bipush (v := (-6)) hx hb dX6_bestClerk_4 (by decide) ?_
  refine xc_i (xr_V (As := [.int (-6)]) (rest := []) (κ := 16) ⟨hx, hb, hml, hown, hts⟩ (ce_X6_done l O M b hτ M (fun _ _ => rfl) (xp_T hF.1) hF.2.1 (-6)) (cwV 1 hts gX6_bestClerk_X6_doneWithOneMoreAt rfl rfl rfl (by decide +kernel) ⟨Nat.le_of_ble_eq_true rfl, Nat.le_of_ble_eq_true rfl⟩) hK hst hnw hS hW hτ (by decide) rfl rfl rfl hl.1 rfl (Nat.le_of_ble_eq_true rfl) dX6_bestClerk_6 ⟨Nat.zero_le _, Nat.zero_le _⟩) hS (fun r_3 M_1 H locs hq_2 hW hS => ?_)
  obtain ⟨hz, hM1, hN1⟩ := hq_2
  have hE1 : xe_E M_1 (b + 1) := xe_mv (fun x h1 h2 => hM1 x (by omega)) hF.2.1
  subst hz
  refine lv_istore_n (lv' := [(2, .int (nI 0)), (1, .int (-6)), (0, .ref b)]) hx hb dX6_bestClerk_9 rfl hl (by decide) rfl (fun ls hl => ?_)
  refine lv_iconst (v := (nI 0)) hx hb dX6_bestClerk_10 (by decide) ?_
  refine lv_istore_n (lv' := [(3, .int (nI 0)), (2, .int (nI 0)), (1, .int (-6)), (0, .ref b)]) hx hb dX6_bestClerk_11 rfl hl (by decide) rfl (fun ls hl => ?_)
  refine xl_up (σ := xm_T) 6 (fun kk zz H locs ls => xw_D G g τ zz H ∧ va_S A s.heap H locs ∧ lv_has ls 6 [(3, .int (nI kk)), (2, .int (nI 0)), (1, .int (-6)), (0, .ref b)] ∧ (∀ x, x < b + 83 ∨ b + 165 ≤ x → zz x = M x) ∧ (∀ k, k < 24 → zz (b + 83 + 2 * k + 34) 0 = zz (b + 1 + 2 * k + 34) 0) ∧ xe_E zz (b + 1)) (fun z12 H locs ls hI => ?_) (fun k12 z12 H locs ls hk12 hI ih12 => ?_) (k0 := 0) (z0 := M_1) (Nat.zero_le _) ⟨hW, hS, lv_sub hl [0, 1, 2, 3] rfl, ⟨hM1, hN1, hE1⟩⟩
  · obtain ⟨hW, hS, hl, hE12⟩ := hI
    refine lv_iload_n hx hb dX6_bestClerk_12 rfl (lv_at hl 0 rfl) ?_
    refine lv_bipush (v := (nI 6)) hx hb dX6_bestClerk_13 (by decide) ?_
    refine lv_icmp_ge (tgt := 66) hx hb dX6_bestClerk_15 (by decide) (fun c_4 => ?_) (fun c_4 => ?_)
    · refine lv_iload_n hx hb dX6_bestClerk_66 rfl (lv_at hl 2 rfl) ?_
      exact W.iret (v := (-6)) hx hb hr (fun t ht hWm => ⟨⟨(-6), z12, rfl, rfl, xw_end ht hW⟩, hS.F ht⟩) hS.2.2 dX6_bestClerk_67
    · exact absurd (nI_le (Nat.le_refl _) (by decide)) c_4
  · obtain ⟨hW, hS, hl, hE12⟩ := hI
    refine lv_iload_n hx hb dX6_bestClerk_12 rfl (lv_at hl 0 rfl) ?_
    refine lv_bipush (v := (nI 6)) hx hb dX6_bestClerk_13 (by decide) ?_
    refine lv_icmp_ge (tgt := 66) hx hb dX6_bestClerk_15 (by decide) (fun c_5 => ?_) (fun c_5 => ?_)
    · exact absurd c_5 (nI_ge hk12 (by decide))
    · refine lv_aload_n hx hb dX6_bestClerk_18 rfl (lv_at hl 3 rfl) ?_
      refine xg_get (κ := 16) (ci := 6) (C := RX6) (T := TX6) (N := 6) hx hb hts inX6 hown hK hW hτ (by decide) rfl rfl 0 (by decide) (hts (.fieldLink RX6 10 "HalfTickets" "now" "LHalfTickets$Ministry;") (List.mem_of_getElem? (i := 1) (by decide +kernel))) (fun _ h9 => h9) rfl dX6_bestClerk_19 ?_
      refine lv_iload_n hx hb dX6_bestClerk_22 rfl (lv_at hl 0 rfl) ?_
      refine xc_q (xr_V (As := [.int (nI k12)]) (rest := []) (κ := 1) ⟨hx, hb, hml, hown, hts⟩ (c_X2_windowAt l O z12 (b + 1) (O.b1 hτ) (nI k12)) (cwV 1 hts gX6_bestClerk_X2_windowAt rfl rfl rfl (by decide +kernel) ⟨Nat.le_of_ble_eq_true rfl, Nat.le_of_ble_eq_true rfl⟩) hK hst hnw hS hW (O.b1 hτ) (by decide) rfl rfl rfl hl.1 rfl (Nat.le_of_ble_eq_true rfl) dX6_bestClerk_23 ⟨Nat.zero_le _, Nat.zero_le _⟩) hS (fun r_8 M_6 H locs hq_7 hW hS => ?_)
      obtain ⟨hq_7a, hq_7b⟩ := hq_7
      rw [hq_7b] at hW
      rw [hq_7a]
      rw [xf_win_s _ hk12]
      refine W.eq (g2 := F0 m 26 ls [.ref ((b + 1) + 5 * k12 + 4)]) rfl ?_
      refine lv_astore (lv' := [(4, .ref ((b + 1) + 5 * k12 + 4)), (3, .int (nI k12)), (2, .int (nI 0)), (1, .int (-6)), (0, .ref b)]) hx hb dX6_bestClerk_26 hl (by decide) rfl (fun ls hl => ?_)
      refine lv_aload hx hb dX6_bestClerk_28 (lv_at hl 0 rfl) ?_
      refine lv_ifnull hx hb dX6_bestClerk_30 ?_
      refine lv_aload hx hb dX6_bestClerk_33 (lv_at hl 0 rfl) ?_
      refine xg_get (κ := 5) (ci := 5) (C := RX5) (T := TX5) (N := 7) hx hb hts inX5 hown hK hW (O.w (O.b1 hτ) hk12) (by decide) rfl rfl 1 (by decide) (hts (.fieldLink RX6 72 "HalfTickets$Window" "clerks" "I") (List.mem_of_getElem? (i := 2) (by decide +kernel))) (fun _ h9 => h9) rfl dX6_bestClerk_35 ?_
      refine lv_iconst (v := (nI 3)) hx hb dX6_bestClerk_38 (by decide) ?_
      refine lv_icmp_ge (tgt := 60) hx hb dX6_bestClerk_39 (by decide) (fun c_9 => ?_) (fun c_9 => ?_)
      · exact absurd c_9 (by rw [hE12.1 _ (by omega), (hF.2.2.2.2.1 k12 hk12).2.1]; decide)
      · refine lv_aload_n hx hb dX6_bestClerk_42 rfl (lv_at hl 4 rfl) ?_
        refine lv_iload_n hx hb dX6_bestClerk_43 rfl (lv_at hl 1 rfl) ?_
        refine xc_i (xr_V (As := [.int (nI k12)]) (rest := []) (κ := 16) ⟨hx, hb, hml, hown, hts⟩ (ce_X6_done l O z12 b hτ M hE12.1 hE12.2.1 hE12.2.2 (nI k12)) (cwV 1 hts gX6_bestClerk_X6_doneWithOneMoreAt rfl rfl rfl (by decide +kernel) ⟨Nat.le_of_ble_eq_true rfl, Nat.le_of_ble_eq_true rfl⟩) hK hst hnw hS hW hτ (by decide) rfl rfl rfl hl.1 rfl (Nat.le_of_ble_eq_true rfl) dX6_bestClerk_44 ⟨Nat.zero_le _, Nat.zero_le _⟩) hS (fun r_12 M_10 H locs hq_11 hW hS => ?_)
        obtain ⟨hz, hM1, hN1⟩ := hq_11
        have hE1 : xe_E M_10 (b + 1) := xe_mv (fun x h1 h2 => hM1 x (by omega)) hF.2.1
        subst hz
        refine lv_istore (lv' := [(5, .int (nI 0)), (4, .ref ((b + 1) + 5 * k12 + 4)), (3, .int (nI k12)), (2, .int (nI 0)), (1, .int (-6)), (0, .ref b)]) hx hb dX6_bestClerk_47 hl (by decide) rfl (fun ls hl => ?_)
        refine lv_iload hx hb dX6_bestClerk_49 (lv_at hl 0 rfl) ?_
        refine lv_iload_n hx hb dX6_bestClerk_51 rfl (lv_at hl 3 rfl) ?_
        refine lv_icmp_le (tgt := 60) hx hb dX6_bestClerk_52 (by decide) (fun c_13 => ?_) (fun c_13 => ?_)
        · refine lv_iinc (v := (nI (k12 + 1))) (lv' := [(3, .int (nI (k12 + 1))), (5, .int (nI 0)), (4, .ref ((b + 1) + 5 * k12 + 4)), (2, .int (nI 0)), (1, .int (-6)), (0, .ref b)]) hx hb dX6_bestClerk_60 hl (k := 2) rfl ((nI_1 k12)) (by decide) rfl (fun ls hl => ?_)
          refine lv_goto (tgt := 12) hx hb dX6_bestClerk_63 (by decide) ?_
          exact ih12 M_10 _ _ _ ⟨hW, hS, lv_sub hl [0, 3, 4, 5] rfl, ⟨hM1, hN1, hE1⟩⟩
        · exact absurd (by decide) c_13

set_option maxHeartbeats 4000000 in
set_option maxRecDepth 100000 in
/-- longest on a new object -/
theorem cp_longest (l : Launch) {G : va_G} {g : Nat → ClassId} {t0 τ : Nat → Nat} {A : Nat → Prop} (O : xk_O τ A) (M : xm_T) (b : Nat) (hτ : τ b = 16) (hF : xp_F M b) : Met l yX6_longest wsX6_longest ({ frames := 5, cells := 0, slots := 0, locals := 160 }) (va_Pc [.ref b] (xS_t G g t0 τ A M)) (va_Qi (fun r M' => r = -6) (fun M' t => xw_D G g τ M' t.heap) A) 0 0 A := by
  refine Met.ofW (cc := cX6_longest) (maxL := 5) (ret := (some .int)) (by decide) rfl ?_
  intro p e s m args below meth c s₁ B hml hv
  obtain ⟨rfl, hW, hK, hst, hnw⟩ := hv
  have hx := B.exec
  have hb := B.bytes
  have hr := B.returns
  have hts := atoms_spec (ws := wsX6_longest) B.pre
  have hown : s.vm.findClass RX6 = some m.cls := findClass_of_methodNamed B.named
  have hlocks := B.notSynchronized
  have hS : va_S A s.heap s.heap [] := va_S.rf
  have inX5 : ∀ w ∈ u_ws RX5 TX5 7, w ∈ wsX6_longest := by decide +kernel
  have inX6 : ∀ w ∈ u_ws RX6 TX6 6, w ∈ wsX6_longest := by decide +kernel
  have hl := lv_entry ([.ref b]) (n := 5) (Nat.le_of_ble_eq_true rfl)
  rw [lg_entry_eq]
  generalize (lg_sl ([.ref b]) ++ List.replicate (5 - (lg_sl ([.ref b])).length) Slot.unset).toArray = ls at hl ⊢
  have hl : lv_has ls 5 [(0, .ref b)] := hl
  refine lv_bipush (v := (-6)) hx hb dX6_longest_0 (by decide) ?_
  refine lv_istore_n (lv' := [(1, .int (-6)), (0, .ref b)]) hx hb dX6_longest_2 rfl hl (by decide) rfl (fun ls hl => ?_)
  refine lv_iconst (v := (nI 0)) hx hb dX6_longest_3 (by decide) ?_
  refine lv_istore_n (lv' := [(2, .int (nI 0)), (1, .int (-6)), (0, .ref b)]) hx hb dX6_longest_4 rfl hl (by decide) rfl (fun ls hl => ?_)
  refine lv_iconst (v := (nI 0)) hx hb dX6_longest_5 (by decide) ?_
  refine lv_istore_n (lv' := [(3, .int (nI 0)), (2, .int (nI 0)), (1, .int (-6)), (0, .ref b)]) hx hb dX6_longest_6 rfl hl (by decide) rfl (fun ls hl => ?_)
  refine xl_up (σ := Unit) 6 (fun kk zz H locs ls => xw_D G g τ M H ∧ va_S A s.heap H locs ∧ lv_has ls 5 [(3, .int (nI kk)), (2, .int (nI 0)), (1, .int (-6)), (0, .ref b)] ∧ True) (fun z7 H locs ls hI => ?_) (fun k7 z7 H locs ls hk7 hI ih7 => ?_) (k0 := 0) (z0 := ()) (Nat.zero_le _) ⟨hW, hS, lv_sub hl [0, 1, 2, 3] rfl, trivial⟩
  · obtain ⟨hW, hS, hl, hE7⟩ := hI
    refine lv_iload_n hx hb dX6_longest_7 rfl (lv_at hl 0 rfl) ?_
    refine lv_bipush (v := (nI 6)) hx hb dX6_longest_8 (by decide) ?_
    refine lv_icmp_ge (tgt := 57) hx hb dX6_longest_10 (by decide) (fun c_1 => ?_) (fun c_1 => ?_)
    · refine lv_iload_n hx hb dX6_longest_57 rfl (lv_at hl 2 rfl) ?_
      exact W.iret (v := (-6)) hx hb hr (fun t ht hWm => ⟨⟨(-6), M, rfl, rfl, xw_end ht hW⟩, hS.F ht⟩) hS.2.2 dX6_longest_58
    · exact absurd (nI_le (Nat.le_refl _) (by decide)) c_1
  · obtain ⟨hW, hS, hl, hE7⟩ := hI
    refine lv_iload_n hx hb dX6_longest_7 rfl (lv_at hl 0 rfl) ?_
    refine lv_bipush (v := (nI 6)) hx hb dX6_longest_8 (by decide) ?_
    refine lv_icmp_ge (tgt := 57) hx hb dX6_longest_10 (by decide) (fun c_2 => ?_) (fun c_2 => ?_)
    · exact absurd c_2 (nI_ge hk7 (by decide))
    · refine lv_aload_n hx hb dX6_longest_13 rfl (lv_at hl 3 rfl) ?_
      refine xg_get (κ := 16) (ci := 6) (C := RX6) (T := TX6) (N := 6) hx hb hts inX6 hown hK hW hτ (by decide) rfl rfl 0 (by decide) (hts (.fieldLink RX6 10 "HalfTickets" "now" "LHalfTickets$Ministry;") (List.mem_of_getElem? (i := 1) (by decide +kernel))) (fun _ h9 => h9) rfl dX6_longest_14 ?_
      refine lv_iload_n hx hb dX6_longest_17 rfl (lv_at hl 0 rfl) ?_
      refine xc_q (xr_V (As := [.int (nI k7)]) (rest := []) (κ := 1) ⟨hx, hb, hml, hown, hts⟩ (c_X2_windowAt l O M (b + 1) (O.b1 hτ) (nI k7)) (cwV 1 hts gX6_longest_X2_windowAt rfl rfl rfl (by decide +kernel) ⟨Nat.le_of_ble_eq_true rfl, Nat.le_of_ble_eq_true rfl⟩) hK hst hnw hS hW (O.b1 hτ) (by decide) rfl rfl rfl hl.1 rfl (Nat.le_of_ble_eq_true rfl) dX6_longest_18 ⟨Nat.zero_le _, Nat.zero_le _⟩) hS (fun r_5 M_3 H locs hq_4 hW hS => ?_)
      obtain ⟨hq_4a, hq_4b⟩ := hq_4
      rw [hq_4b] at hW
      rw [hq_4a]
      rw [xf_win_s _ hk7]
      refine W.eq (g2 := F0 m 21 ls [.ref ((b + 1) + 5 * k7 + 4)]) rfl ?_
      refine lv_astore (lv' := [(4, .ref ((b + 1) + 5 * k7 + 4)), (3, .int (nI k7)), (2, .int (nI 0)), (1, .int (-6)), (0, .ref b)]) hx hb dX6_longest_21 hl (by decide) rfl (fun ls hl => ?_)
      refine lv_aload hx hb dX6_longest_23 (lv_at hl 0 rfl) ?_
      refine lv_ifnull hx hb dX6_longest_25 ?_
      refine lv_aload hx hb dX6_longest_28 (lv_at hl 0 rfl) ?_
      refine xg_get (κ := 5) (ci := 5) (C := RX5) (T := TX5) (N := 7) hx hb hts inX5 hown hK hW (O.w (O.b1 hτ) hk7) (by decide) rfl rfl 5 (by decide) (hts (.fieldLink RX6 152 "HalfTickets$Window" "queue" "LHalfTickets$Line;") (List.mem_of_getElem? (i := 2) (by decide +kernel))) (fun _ h9 => h9) rfl dX6_longest_30 ?_
      refine xc_i (xr_V (As := []) (rest := []) (κ := 6) ⟨hx, hb, hml, hown, hts⟩ (c_X1_length l O M ((b + 1) + 5 * k7 + 5) (O.q (O.w (O.b1 hτ) hk7))) (cwV 0 hts gX6_longest_X1_length rfl rfl rfl (by decide +kernel) ⟨Nat.le_of_ble_eq_true rfl, Nat.le_of_ble_eq_true rfl⟩) hK hst hnw hS hW (O.q (O.w (O.b1 hτ) hk7)) (by decide) rfl rfl rfl hl.1 rfl (Nat.le_of_ble_eq_true rfl) dX6_longest_33 ⟨Nat.zero_le _, Nat.zero_le _⟩) hS (fun r_8 M_6 H locs hq_7 hW hS => ?_)
      obtain ⟨hq_7a, hq_7b⟩ := hq_7
      rw [hq_7b] at hW
      rw [hq_7a]
      refine lv_iload_n hx hb dX6_longest_36 rfl (lv_at hl 2 rfl) ?_
      refine lv_icmp_le (tgt := 51) hx hb dX6_longest_37 (by decide) (fun c_9 => ?_) (fun c_9 => ?_)
      · refine lv_iinc (v := (nI (k7 + 1))) (lv' := [(3, .int (nI (k7 + 1))), (4, .ref ((b + 1) + 5 * k7 + 4)), (2, .int (nI 0)), (1, .int (-6)), (0, .ref b)]) hx hb dX6_longest_51 hl (k := 1) rfl ((nI_1 k7)) (by decide) rfl (fun ls hl => ?_)
        refine lv_goto (tgt := 7) hx hb dX6_longest_54 (by decide) ?_
        exact ih7 () _ _ _ ⟨hW, hS, lv_sub hl [0, 2, 3, 4] rfl, trivial⟩
      · exact absurd (by rw [(hF.2.1.1 k7 hk7).1]; decide) c_9

set_option maxHeartbeats 4000000 in
set_option maxRecDepth 100000 in
/-- wipe on a new object -/
theorem cp_wipe (l : Launch) {G : va_G} {g : Nat → ClassId} {t0 τ : Nat → Nat} {A : Nat → Prop} (O : xk_O τ A) (M : xm_T) (b : Nat) (hτ : τ b = 16) (hF : xp_F M b) : Met l yX6_wipe wsX6_wipe ({ frames := 5, cells := 0, slots := 0, locals := 160 }) (va_Pc [.ref b] (xS_t G g t0 τ A M)) (va_Qi (fun r M' => r = nI 0) (fun M' t => xw_D G g τ M' t.heap) A) 0 0 A := by
  refine Met.ofW (cc := cX6_wipe) (maxL := 2) (ret := (some .int)) (by decide) rfl ?_
  intro p e s m args below meth c s₁ B hml hv
  obtain ⟨rfl, hW, hK, hst, hnw⟩ := hv
  have hx := B.exec
  have hb := B.bytes
  have hr := B.returns
  have hts := atoms_spec (ws := wsX6_wipe) B.pre
  have hown : s.vm.findClass RX6 = some m.cls := findClass_of_methodNamed B.named
  have hlocks := B.notSynchronized
  have hS : va_S A s.heap s.heap [] := va_S.rf
  have inX6 : ∀ w ∈ u_ws RX6 TX6 6, w ∈ wsX6_wipe := by decide +kernel
  have hl := lv_entry ([.ref b]) (n := 2) (Nat.le_of_ble_eq_true rfl)
  rw [lg_entry_eq]
  generalize (lg_sl ([.ref b]) ++ List.replicate (2 - (lg_sl ([.ref b])).length) Slot.unset).toArray = ls at hl ⊢
  have hl : lv_has ls 2 [(0, .ref b)] := hl
  refine lv_aload_n hx hb dX6_wipe_0 rfl (lv_at hl 0 rfl) ?_
  refine xg_get (κ := 16) (ci := 6) (C := RX6) (T := TX6) (N := 6) hx hb hts inX6 hown hK hW hτ (by decide) rfl rfl 5 (by decide) (hts (.fieldLink RX6 37 "HalfTickets" "pad" "LHalfTickets$Pad;") (List.mem_of_getElem? (i := 1) (by decide +kernel))) (fun _ h9 => h9) rfl dX6_wipe_1 ?_
  refine xc_i (xr_V (As := []) (rest := []) (κ := 14) ⟨hx, hb, hml, hown, hts⟩ (c_X3_length l O M (b + 825) (O.b6 hτ)) (cwV 0 hts gX6_wipe_X3_length rfl rfl rfl (by decide +kernel) ⟨Nat.le_of_ble_eq_true rfl, Nat.le_of_ble_eq_true rfl⟩) hK hst hnw hS hW (O.b6 hτ) (by decide) rfl rfl rfl hl.1 rfl (Nat.le_of_ble_eq_true rfl) dX6_wipe_4 ⟨Nat.zero_le _, Nat.zero_le _⟩) hS (fun r_3 M_1 H locs hq_2 hW hS => ?_)
  obtain ⟨hq_2a, hq_2b⟩ := hq_2
  rw [hq_2b] at hW
  rw [hq_2a]
  refine lv_istore_n (lv' := [(1, .int (M (b + 825) 1)), (0, .ref b)]) hx hb dX6_wipe_7 rfl hl (by decide) rfl (fun ls hl => ?_)
  refine lv_aload_n hx hb dX6_wipe_8 rfl (lv_at hl 1 rfl) ?_
  refine xg_get (κ := 16) (ci := 6) (C := RX6) (T := TX6) (N := 6) hx hb hts inX6 hown hK hW hτ (by decide) rfl rfl 5 (by decide) (hts (.fieldLink RX6 37 "HalfTickets" "pad" "LHalfTickets$Pad;") (List.mem_of_getElem? (i := 1) (by decide +kernel))) (fun _ h9 => h9) rfl dX6_wipe_9 ?_
  refine xc_v (xr_V (As := []) (rest := []) (κ := 14) ⟨hx, hb, hml, hown, hts⟩ (c_X3_clear l O M (b + 825) (O.b6 hτ)) (cwV 0 hts gX6_wipe_X3_clear rfl rfl rfl (by decide +kernel) ⟨Nat.le_of_ble_eq_true rfl, Nat.le_of_ble_eq_true rfl⟩) hK hst hnw hS hW (O.b6 hτ) (by decide) rfl rfl rfl hl.1 rfl (Nat.le_of_ble_eq_true rfl) dX6_wipe_12 ⟨Nat.zero_le _, Nat.zero_le _⟩) hS (fun M_4 H locs hq_5 hW hS => ?_)
  refine lv_iload_n hx hb dX6_wipe_15 rfl (lv_at hl 0 rfl) ?_
  exact W.iret (v := (M (b + 825) 1)) hx hb hr (fun t ht hWm => ⟨⟨(M (b + 825) 1), M_4, rfl, hF.2.2.2.2.2.2.2.2, xw_end ht hW⟩, hS.F ht⟩) hS.2.2 dX6_wipe_16

set_option maxHeartbeats 4000000 in
set_option maxRecDepth 100000 in
/-- undo on a new object -/
theorem cp_undo (l : Launch) {G : va_G} {g : Nat → ClassId} {t0 τ : Nat → Nat} {A : Nat → Prop} (O : xk_O τ A) (M : xm_T) (b : Nat) (hτ : τ b = 16) (hF : xp_F M b) : Met l yX6_undo wsX6_undo ({ frames := 5, cells := 0, slots := 0, locals := 160 }) (va_Pc [.ref b] (xS_t G g t0 τ A M)) (va_Qi (fun r M' => r = -5) (fun M' t => xw_D G g τ M' t.heap) A) 0 0 A := by
  refine Met.ofW (cc := cX6_undo) (maxL := 1) (ret := (some .int)) (by decide) rfl ?_
  intro p e s m args below meth c s₁ B hml hv
  obtain ⟨rfl, hW, hK, hst, hnw⟩ := hv
  have hx := B.exec
  have hb := B.bytes
  have hr := B.returns
  have hts := atoms_spec (ws := wsX6_undo) B.pre
  have hown : s.vm.findClass RX6 = some m.cls := findClass_of_methodNamed B.named
  have hlocks := B.notSynchronized
  have hS : va_S A s.heap s.heap [] := va_S.rf
  have inX6 : ∀ w ∈ u_ws RX6 TX6 6, w ∈ wsX6_undo := by decide +kernel
  have hl := lv_entry ([.ref b]) (n := 1) (Nat.le_of_ble_eq_true rfl)
  rw [lg_entry_eq]
  generalize (lg_sl ([.ref b]) ++ List.replicate (1 - (lg_sl ([.ref b])).length) Slot.unset).toArray = ls at hl ⊢
  have hl : lv_has ls 1 [(0, .ref b)] := hl
  refine lv_aload_n hx hb dX6_undo_0 rfl (lv_at hl 0 rfl) ?_
  refine xg_get (κ := 16) (ci := 6) (C := RX6) (T := TX6) (N := 6) hx hb hts inX6 hown hK hW hτ (by decide) rfl rfl 2 (by decide) (hts (.fieldLink RX6 22 "HalfTickets" "history" "LHalfTickets$History;") (List.mem_of_getElem? (i := 1) (by decide +kernel))) (fun _ h9 => h9) rfl dX6_undo_1 ?_
  refine xc_i (xr_V (As := []) (rest := []) (κ := 10) ⟨hx, hb, hml, hown, hts⟩ (c_X0_kept l O M (b + 165) (O.b3 hτ)) (cwV 0 hts gX6_undo_X0_kept rfl rfl rfl (by decide +kernel) ⟨Nat.le_of_ble_eq_true rfl, Nat.le_of_ble_eq_true rfl⟩) hK hst hnw hS hW (O.b3 hτ) (by decide) rfl rfl rfl hl.1 rfl (Nat.le_of_ble_eq_true rfl) dX6_undo_4 ⟨Nat.zero_le _, Nat.zero_le _⟩) hS (fun r_3 M_1 H locs hq_2 hW hS => ?_)
  obtain ⟨hq_2a, hq_2b⟩ := hq_2
  rw [hq_2b] at hW
  rw [hq_2a]
  refine lv_if_ne (tgt := 13) hx hb dX6_undo_7 (by decide) (fun c_4 => ?_) (fun c_4 => ?_)
  · exact absurd (by rw [hF.2.2.2.2.2.2.1.2]; rfl) c_4
  · refine lv_bipush (v := (-5)) hx hb dX6_undo_10 (by decide) ?_
    exact W.iret (v := (-5)) hx hb hr (fun t ht hWm => ⟨⟨(-5), M, rfl, rfl, xw_end ht hW⟩, hS.F ht⟩) hS.2.2 dX6_undo_12

set_option maxHeartbeats 4000000 in
set_option maxRecDepth 100000 in
/-- save on a new object -/
theorem cp_save (l : Launch) {G : va_G} {g : Nat → ClassId} {t0 τ : Nat → Nat} {A : Nat → Prop} (O : xk_O τ A) (M : xm_T) (b : Nat) (hτ : τ b = 16) (hF : xp_F M b) (i : Int32) : Met l yX6_save wsX6_save ({ frames := 5, cells := 0, slots := 0, locals := 160 }) (va_Pc [.ref b, .int i] (xS_t G g t0 τ A M)) (va_Qi (fun r M' => r = xa_sav i) (fun M' t => xw_D G g τ M' t.heap) A) 0 0 A := by
  refine Met.ofW (cc := cX6_save) (maxL := 2) (ret := (some .int)) (by decide) rfl ?_
  intro p e s m args below meth c s₁ B hml hv
  obtain ⟨rfl, hW, hK, hst, hnw⟩ := hv
  have hx := B.exec
  have hb := B.bytes
  have hr := B.returns
  have hts := atoms_spec (ws := wsX6_save) B.pre
  have hown : s.vm.findClass RX6 = some m.cls := findClass_of_methodNamed B.named
  have hlocks := B.notSynchronized
  have hS : va_S A s.heap s.heap [] := va_S.rf
  have inX2 : ∀ w ∈ u_ws RX2 TX2 7, w ∈ wsX6_save := by decide +kernel
  have inX6 : ∀ w ∈ u_ws RX6 TX6 6, w ∈ wsX6_save := by decide +kernel
  have hl := lv_entry ([.ref b, .int i]) (n := 2) (Nat.le_of_ble_eq_true rfl)
  rw [lg_entry_eq]
  generalize (lg_sl ([.ref b, .int i]) ++ List.replicate (2 - (lg_sl ([.ref b, .int i])).length) Slot.unset).toArray = ls at hl ⊢
  have hl : lv_has ls 2 [(0, .ref b), (1, .int i)] := hl
  refine lv_iload_n hx hb dX6_save_0 rfl (lv_at hl 1 rfl) ?_
  refine lv_if_lt (tgt := 9) hx hb dX6_save_1 (by decide) (fun c_1 => ?_) (fun c_1 => ?_)
  · have hres : (-2 : Int32) = xa_sav i := by unfold xa_sav; rw [if_pos c_1]
    refine lv_bipush (v := (-2)) hx hb dX6_save_9 (by decide) ?_
    exact W.iret (v := (-2)) hx hb hr (fun t ht hWm => ⟨⟨(-2), M, rfl, hres, xw_end ht hW⟩, hS.F ht⟩) hS.2.2 dX6_save_11
  · refine lv_iload_n hx hb dX6_save_4 rfl (lv_at hl 1 rfl) ?_
    refine lv_iconst (v := (nI 2)) hx hb dX6_save_5 (by decide) ?_
    refine lv_icmp_lt (tgt := 12) hx hb dX6_save_6 (by decide) (fun c_2 => ?_) (fun c_2 => ?_)
    · obtain ⟨k, hk, rfl⟩ := xi_ix c_1 c_2 (by decide)
      refine lv_aload_n hx hb dX6_save_12 rfl (lv_at hl 0 rfl) ?_
      refine xg_get (κ := 16) (ci := 6) (C := RX6) (T := TX6) (N := 6) hx hb hts inX6 hown hK hW hτ (by decide) rfl rfl 3 (by decide) (hts (.fieldLink RX6 26 "HalfTickets" "slots" "[LHalfTickets$Ministry;") (List.mem_of_getElem? (i := 1) (by decide +kernel))) (fun _ h9 => h9) rfl dX6_save_13 ?_
      refine lv_iload_n hx hb dX6_save_16 rfl (lv_at hl 1 rfl) ?_
      refine xg_aldS (a := b) hx hb hK hW (O.b4 hτ) k rfl hk dX6_save_17 ?_
      refine lv_aload_n hx hb dX6_save_18 rfl (lv_at hl 0 rfl) ?_
      refine xg_get (κ := 16) (ci := 6) (C := RX6) (T := TX6) (N := 6) hx hb hts inX6 hown hK hW hτ (by decide) rfl rfl 0 (by decide) (hts (.fieldLink RX6 10 "HalfTickets" "now" "LHalfTickets$Ministry;") (List.mem_of_getElem? (i := 2) (by decide +kernel))) (fun _ h9 => h9) rfl dX6_save_19 ?_
      refine xc_v (xr_V (As := [.ref (b + 1)]) (rest := []) (κ := 1) ⟨hx, hb, hml, hown, hts⟩ (c_X2_become l O M (b + 82 * k + 660) (b + 1) (O.bs hτ hk) (O.b1 hτ) (by omega) (fun j hj => by rw [(hF.1 j hj).2.2.2 k hk, (hF.1 j hj).1])) (cwV 1 hts gX6_save_X2_become rfl rfl rfl (by decide +kernel) ⟨Nat.le_of_ble_eq_true rfl, Nat.le_of_ble_eq_true rfl⟩) hK hst hnw hS hW (O.bs hτ hk) (by decide) rfl rfl rfl hl.1 rfl (Nat.le_of_ble_eq_true rfl) dX6_save_22 ⟨Nat.zero_le _, Nat.zero_le _⟩) hS (fun M_3 H locs hq_4 hW hS => ?_)
      have ho : ∀ x, x < b + 660 ∨ b + 824 ≤ x → M_3 x = M x := fun x hx => by rw [hq_4]; exact xf_out (by omega)
      refine lv_aload_n hx hb dX6_save_25 rfl (lv_at hl 0 rfl) ?_
      refine xg_get (κ := 16) (ci := 6) (C := RX6) (T := TX6) (N := 6) hx hb hts inX6 hown hK hW hτ (by decide) rfl rfl 4 (by decide) (hts (.fieldLink RX6 30 "HalfTickets" "isSaved" "[Z") (List.mem_of_getElem? (i := 3) (by decide +kernel))) (fun _ h9 => h9) rfl dX6_save_26 ?_
      refine lv_iload_n hx hb dX6_save_29 rfl (lv_at hl 1 rfl) ?_
      refine lv_iconst (v := (nI 1)) hx hb dX6_save_30 (by decide) ?_
      refine xg_zast hx hb hK O hW hS (O.b5 hτ) k rfl hk (by decide) (by have h := xw_okp hW (O.b5 hτ) (by decide); rcases (show k = 0 ∨ k = 1 by omega) with rfl | rfl; exact ⟨xb_1, h.2⟩; exact ⟨h.1, xb_1⟩) dX6_save_31 (fun H locs hW hS => ?_)
      obtain ⟨M_6, eM_6⟩ : ∃ M9, M9 = xu_p M_3 (b + 824) k (nI 1) := ⟨_, rfl⟩
      rw [← eM_6] at hW
      refine lv_aload_n hx hb dX6_save_32 rfl (lv_at hl 0 rfl) ?_
      refine xg_get (κ := 16) (ci := 6) (C := RX6) (T := TX6) (N := 6) hx hb hts inX6 hown hK hW hτ (by decide) rfl rfl 0 (by decide) (hts (.fieldLink RX6 10 "HalfTickets" "now" "LHalfTickets$Ministry;") (List.mem_of_getElem? (i := 2) (by decide +kernel))) (fun _ h9 => h9) rfl dX6_save_33 ?_
      refine xg_get (κ := 1) (ci := 2) (C := RX2) (T := TX2) (N := 7) hx hb hts inX2 hown hK hW (O.b1 hτ) (by decide) rfl rfl 4 (by decide) (hts (.fieldLink RX6 113 "HalfTickets$Ministry" "ticks" "I") (List.mem_of_getElem? (i := 4) (by decide +kernel))) (fun _ h9 => h9) rfl dX6_save_36 ?_
      exact W.iret (v := (M_6 (b + 1) 4)) hx hb hr (fun t ht hWm => ⟨⟨(M_6 (b + 1) 4), M_6, rfl, (by rw [eM_6, xu_n _ (Or.inl (by omega)), ho _ (by omega), hF.2.2.1.2.1]; unfold xa_sav; rw [if_neg c_1, if_pos c_2]), xw_end ht hW⟩, hS.F ht⟩) hS.2.2 dX6_save_39
    · have hres : (-2 : Int32) = xa_sav i := by unfold xa_sav; rw [if_neg c_1, if_neg c_2]
      refine lv_bipush (v := (-2)) hx hb dX6_save_9 (by decide) ?_
      exact W.iret (v := (-2)) hx hb hr (fun t ht hWm => ⟨⟨(-2), M, rfl, hres, xw_end ht hW⟩, hS.F ht⟩) hS.2.2 dX6_save_11

set_option maxHeartbeats 4000000 in
set_option maxRecDepth 100000 in
/-- restore on a new object -/
theorem cp_restore (l : Launch) {G : va_G} {g : Nat → ClassId} {t0 τ : Nat → Nat} {A : Nat → Prop} (O : xk_O τ A) (M : xm_T) (b : Nat) (hτ : τ b = 16) (hF : xp_F M b) (i : Int32) : Met l yX6_restore wsX6_restore ({ frames := 5, cells := 0, slots := 0, locals := 160 }) (va_Pc [.ref b, .int i] (xS_t G g t0 τ A M)) (va_Qi (fun r M' => r = xa_res i) (fun M' t => xw_D G g τ M' t.heap) A) 0 0 A := by
  refine Met.ofW (cc := cX6_restore) (maxL := 2) (ret := (some .int)) (by decide) rfl ?_
  intro p e s m args below meth c s₁ B hml hv
  obtain ⟨rfl, hW, hK, hst, hnw⟩ := hv
  have hx := B.exec
  have hb := B.bytes
  have hr := B.returns
  have hts := atoms_spec (ws := wsX6_restore) B.pre
  have hown : s.vm.findClass RX6 = some m.cls := findClass_of_methodNamed B.named
  have hlocks := B.notSynchronized
  have hS : va_S A s.heap s.heap [] := va_S.rf
  have inX2 : ∀ w ∈ u_ws RX2 TX2 7, w ∈ wsX6_restore := by decide +kernel
  have inX6 : ∀ w ∈ u_ws RX6 TX6 6, w ∈ wsX6_restore := by decide +kernel
  have hl := lv_entry ([.ref b, .int i]) (n := 2) (Nat.le_of_ble_eq_true rfl)
  rw [lg_entry_eq]
  generalize (lg_sl ([.ref b, .int i]) ++ List.replicate (2 - (lg_sl ([.ref b, .int i])).length) Slot.unset).toArray = ls at hl ⊢
  have hl : lv_has ls 2 [(0, .ref b), (1, .int i)] := hl
  refine lv_iload_n hx hb dX6_restore_0 rfl (lv_at hl 1 rfl) ?_
  refine lv_if_lt (tgt := 9) hx hb dX6_restore_1 (by decide) (fun c_1 => ?_) (fun c_1 => ?_)
  · have hres : (-2 : Int32) = xa_res i := by unfold xa_res; rw [if_pos c_1]
    refine lv_bipush (v := (-2)) hx hb dX6_restore_9 (by decide) ?_
    exact W.iret (v := (-2)) hx hb hr (fun t ht hWm => ⟨⟨(-2), M, rfl, hres, xw_end ht hW⟩, hS.F ht⟩) hS.2.2 dX6_restore_11
  · refine lv_iload_n hx hb dX6_restore_4 rfl (lv_at hl 1 rfl) ?_
    refine lv_iconst (v := (nI 2)) hx hb dX6_restore_5 (by decide) ?_
    refine lv_icmp_lt (tgt := 12) hx hb dX6_restore_6 (by decide) (fun c_2 => ?_) (fun c_2 => ?_)
    · obtain ⟨k, hk, rfl⟩ := xi_ix c_1 c_2 (by decide)
      refine lv_aload_n hx hb dX6_restore_12 rfl (lv_at hl 0 rfl) ?_
      refine xg_get (κ := 16) (ci := 6) (C := RX6) (T := TX6) (N := 6) hx hb hts inX6 hown hK hW hτ (by decide) rfl rfl 4 (by decide) (hts (.fieldLink RX6 30 "HalfTickets" "isSaved" "[Z") (List.mem_of_getElem? (i := 1) (by decide +kernel))) (fun _ h9 => h9) rfl dX6_restore_13 ?_
      refine lv_iload_n hx hb dX6_restore_16 rfl (lv_at hl 1 rfl) ?_
      refine xg_zald hx hb hK hW (O.b5 hτ) k rfl hk dX6_restore_17 ?_
      refine lv_if_ne (tgt := 24) hx hb dX6_restore_18 (by decide) (fun c_3 => ?_) (fun c_3 => ?_)
      · exact absurd (by rw [hF.2.2.2.2.2.2.2.1 k hk]; rfl) c_3
      · refine lv_bipush (v := (-5)) hx hb dX6_restore_21 (by decide) ?_
        exact W.iret (v := (-5)) hx hb hr (fun t ht hWm => ⟨⟨(-5), M, rfl, (by unfold xa_res; rw [if_neg c_1, if_pos c_2]), xw_end ht hW⟩, hS.F ht⟩) hS.2.2 dX6_restore_23
    · have hres : (-2 : Int32) = xa_res i := by unfold xa_res; rw [if_neg c_1, if_neg c_2]
      refine lv_bipush (v := (-2)) hx hb dX6_restore_9 (by decide) ?_
      exact W.iret (v := (-2)) hx hb hr (fun t ht hWm => ⟨⟨(-2), M, rfl, hres, xw_end ht hW⟩, hS.F ht⟩) hS.2.2 dX6_restore_11
