set_option maxHeartbeats 4000000 in
set_option maxRecDepth 100000 in
/-- HalfTickets() -/
theorem k_X6_init (l : Launch) {G : va_G} {g : Nat → ClassId} {t0 : Nat → Nat} {A : Nat → Prop} {h sz : Nat} (hh : h + 1 = sz) (hAA : ∀ q, xA_k h sz q → A q)  : Met l yX6_init wsX6_init ({ frames := 5, cells := 826, slots := 8815, locals := 190 }) (va_Pc [.ref h] (xK_p G g t0 A sz h 6 [.null, .null, .null, .null, .null, .null])) (va_Qv (fun _ : Unit => True) (fun _ t => t.heap.size = sz + 826 ∧ xk_B G g h t.heap) (xA_k h sz)) 826 8815 (xA_k h sz) := by
  subst hh
  refine Met.ofW (cc := cX6_init) (maxL := 2) (ret := none) (by decide) rfl ?_
  intro p e s m args below meth c s₁ B hml hv
  obtain ⟨rfl, hz, fa_0, hK, hst, hnw⟩ := hv
  have hx := B.exec
  have hb := B.bytes
  have hr := B.returns
  have hts := atoms_spec (ws := wsX6_init) B.pre
  have hown : s.vm.findClass RX6 = some m.cls := findClass_of_methodNamed B.named
  have hlocks := B.notSynchronized
  have hin : meth.name = "<init>" := (name_of_methodNamed B.named B.method).1
  have hS : va_S (xA_k h (h + 1)) s.heap s.heap [] := va_S.rf
  have hAh : xA_k h (h + 1) h := Or.inl rfl
  have inX0 : ∀ w ∈ u_ws RX0 TX0 3, w ∈ wsX6_init := by decide +kernel
  have inX2 : ∀ w ∈ u_ws RX2 TX2 7, w ∈ wsX6_init := by decide +kernel
  have inX3 : ∀ w ∈ u_ws RX3 TX3 2, w ∈ wsX6_init := by decide +kernel
  have inX6 : ∀ w ∈ u_ws RX6 TX6 6, w ∈ wsX6_init := by decide +kernel
  have hl := lv_entry ([.ref h]) (n := 2) (Nat.le_of_ble_eq_true rfl)
  rw [lg_entry_eq]
  generalize (lg_sl ([.ref h]) ++ List.replicate (2 - (lg_sl ([.ref h])).length) Slot.unset).toArray = ls at hl ⊢
  have hl : lv_has ls 2 [(0, .ref h)] := hl
  refine lv_aload_n hx hb dX6_init_0 rfl (lv_at hl 0 rfl) ?_
  refine W.objInit hx hb hown (hts (.methodLink RX6 1 objectInit) (List.mem_of_getElem? (i := 1) (by decide +kernel))) (hts (.instanceMethod objectInit) (List.mem_of_getElem? (i := 2) (by decide +kernel))) (hts (.code objectInit ⟨#[0xb1]⟩ 1 none) (List.mem_of_getElem? (i := 3) (by decide +kernel))) rfl (by rw [hml]; exact hl.1) rfl dX6_init_1 (Nat.le_of_ble_eq_true rfl) (Nat.le_of_ble_eq_true rfl) ?_
  refine W.eq (g2 := F0 m 4 ls []) rfl ?_
  refine lv_aload_n hx hb dX6_init_4 rfl (lv_at hl 0 rfl) ?_
  refine xk_new (h := (h + 1)) (ci := 2) (fs := [.null, .null, .null, .int 0, .int 0, .int 0, .int 0]) (C := RX2) (T := TX2) (N := 7) hx hb hts inX2 tyX2 tyX2_ok hown (hts (.classLink RX6 7 RX2) (List.mem_of_getElem? (i := 4) (by decide +kernel))) (hts (.instantiable RX2 7) (List.mem_of_getElem? (i := 5) (by decide +kernel))) (hts (.initialized RX2) (List.mem_of_getElem? (i := 6) (by decide +kernel))) hK hS hz rfl (fun j hj => by rcases (show j = 0 ∨ j = 1 ∨ j = 2 ∨ j = 3 ∨ j = 4 ∨ j = 5 ∨ j = 6 by omega) with rfl | rfl | rfl | rfl | rfl | rfl | rfl <;> rfl) (by decide +kernel) (by decide +kernel) dX6_init_5 (fun H fa_1 hz9 ho hS => ?_)
  replace hz := hz9
  clear hz9
  replace fa_0 := va_at.kept fa_0 (ho h (by omega))
  clear ho
  refine lv_dup hx hb dX6_init_8 rfl ?_
  refine xk_I (As := []) (rest := [.ref (h + 1), .ref h]) (sz := (h + 2)) ⟨hx, hb, hml, hown, hts⟩ (k_X2_init l (A := A) (h := (h + 1)) (sz := (h + 2)) (by omega) (fun q hq => hAA q (hq.elim (fun z => Or.inr (by omega)) (fun z => Or.inr (by omega))))) (cwI 0 hts gX6_init_X2_init rfl rfl rfl (hts (.initialized RX2) (List.mem_of_getElem? (i := 6) (by decide +kernel))) (hts (.methodLink RX6 9 yX2_init) (List.mem_of_getElem? (i := 20) (by decide +kernel))) (hts (.instanceMethod yX2_init) (List.mem_of_getElem? (i := 21) (by decide +kernel))) rfl (by decide +kernel) ⟨Nat.le_of_ble_eq_true rfl, Nat.le_of_ble_eq_true rfl⟩) hK hst hnw hS hAA hz fa_1 (fun q hq => hq.elim (fun z => Or.inr (by omega)) (fun z => Or.inr (by omega))) rfl hl.1 rfl (Nat.le_of_ble_eq_true rfl) dX6_init_9 ⟨by decide +kernel, by decide +kernel⟩ (fun H locs fp_2 hz9 ho hS => ?_)
  replace fa_0 := va_at.kept fa_0 (ho h (by omega))
  clear ho
  replace hz : H.size = (h + 83) := by omega
  clear hz9
  refine xk_putF (ci := 6) (v := .ref (h + 1)) (ty := .object "HalfTickets$Ministry") (C := RX6) (T := TX6) (N := 6) hx hb hts inX6 tyX6 tyX6_ok nmX6 hown hK hS fa_0 hAh rfl 0 (by decide) (hts (.fieldLink RX6 10 "HalfTickets" "now" "LHalfTickets$Ministry;") (List.mem_of_getElem? (i := 7) (by decide +kernel))) (fun _ h9 => h9) rfl hin rfl (by decide +kernel) rfl rfl (Nat.le_of_ble_eq_true rfl) dX6_init_12 (fun H locs fa_0 hz9 ho hS => ?_)
  replace hz := hz9.trans hz
  clear hz9
  have fa_0 : va_at G vwCl (h, .inr (6, [.ref (h + 1), .null, .null, .null, .null, .null])) H := fa_0
  replace fp_2 := fp_2.kept (fun q hq => ho q (by omega))
  clear ho
  refine lv_aload_n hx hb dX6_init_15 rfl (lv_at hl 0 rfl) ?_
  refine xk_new (h := (h + 83)) (ci := 2) (fs := [.null, .null, .null, .int 0, .int 0, .int 0, .int 0]) (C := RX2) (T := TX2) (N := 7) hx hb hts inX2 tyX2 tyX2_ok hown (hts (.classLink RX6 7 RX2) (List.mem_of_getElem? (i := 4) (by decide +kernel))) (hts (.instantiable RX2 7) (List.mem_of_getElem? (i := 5) (by decide +kernel))) (hts (.initialized RX2) (List.mem_of_getElem? (i := 6) (by decide +kernel))) hK hS hz rfl (fun j hj => by rcases (show j = 0 ∨ j = 1 ∨ j = 2 ∨ j = 3 ∨ j = 4 ∨ j = 5 ∨ j = 6 by omega) with rfl | rfl | rfl | rfl | rfl | rfl | rfl <;> rfl) (by decide +kernel) (by decide +kernel) dX6_init_16 (fun H fa_3 hz9 ho hS => ?_)
  replace hz := hz9
  clear hz9
  replace fa_0 := va_at.kept fa_0 (ho h (by omega))
  replace fp_2 := fp_2.kept (fun q hq => ho q (by omega))
  clear ho
  refine lv_dup hx hb dX6_init_19 rfl ?_
  refine xk_I (As := []) (rest := [.ref (h + 83), .ref h]) (sz := (h + 84)) ⟨hx, hb, hml, hown, hts⟩ (k_X2_init l (A := A) (h := (h + 83)) (sz := (h + 84)) (by omega) (fun q hq => hAA q (hq.elim (fun z => Or.inr (by omega)) (fun z => Or.inr (by omega))))) (cwI 0 hts gX6_init_X2_init rfl rfl rfl (hts (.initialized RX2) (List.mem_of_getElem? (i := 6) (by decide +kernel))) (hts (.methodLink RX6 9 yX2_init) (List.mem_of_getElem? (i := 20) (by decide +kernel))) (hts (.instanceMethod yX2_init) (List.mem_of_getElem? (i := 21) (by decide +kernel))) rfl (by decide +kernel) ⟨Nat.le_of_ble_eq_true rfl, Nat.le_of_ble_eq_true rfl⟩) hK hst hnw hS hAA hz fa_3 (fun q hq => hq.elim (fun z => Or.inr (by omega)) (fun z => Or.inr (by omega))) rfl hl.1 rfl (Nat.le_of_ble_eq_true rfl) dX6_init_20 ⟨by decide +kernel, by decide +kernel⟩ (fun H locs fp_4 hz9 ho hS => ?_)
  replace fa_0 := va_at.kept fa_0 (ho h (by omega))
  replace fp_2 := fp_2.kept (fun q hq => ho q (by omega))
  clear ho
  replace hz : H.size = (h + 165) := by omega
  clear hz9
  refine xk_putF (ci := 6) (v := .ref (h + 83)) (ty := .object "HalfTickets$Ministry") (C := RX6) (T := TX6) (N := 6) hx hb hts inX6 tyX6 tyX6_ok nmX6 hown hK hS fa_0 hAh rfl 1 (by decide) (hts (.fieldLink RX6 16 "HalfTickets" "trial" "LHalfTickets$Ministry;") (List.mem_of_getElem? (i := 8) (by decide +kernel))) (fun _ h9 => h9) rfl hin rfl (by decide +kernel) rfl rfl (Nat.le_of_ble_eq_true rfl) dX6_init_23 (fun H locs fa_0 hz9 ho hS => ?_)
  replace hz := hz9.trans hz
  clear hz9
  have fa_0 : va_at G vwCl (h, .inr (6, [.ref (h + 1), .ref (h + 83), .null, .null, .null, .null])) H := fa_0
  replace fp_2 := fp_2.kept (fun q hq => ho q (by omega))
  replace fp_4 := fp_4.kept (fun q hq => ho q (by omega))
  clear ho
  refine lv_aload_n hx hb dX6_init_26 rfl (lv_at hl 0 rfl) ?_
  refine xk_new (h := (h + 165)) (ci := 0) (fs := [.null, .int 0, .int 0]) (C := RX0) (T := TX0) (N := 3) hx hb hts inX0 tyX0 tyX0_ok hown (hts (.classLink RX6 19 RX0) (List.mem_of_getElem? (i := 9) (by decide +kernel))) (hts (.instantiable RX0 3) (List.mem_of_getElem? (i := 10) (by decide +kernel))) (hts (.initialized RX0) (List.mem_of_getElem? (i := 11) (by decide +kernel))) hK hS hz rfl (fun j hj => by rcases (show j = 0 ∨ j = 1 ∨ j = 2 by omega) with rfl | rfl | rfl <;> rfl) (by decide +kernel) (by decide +kernel) dX6_init_27 (fun H fa_5 hz9 ho hS => ?_)
  replace hz := hz9
  clear hz9
  replace fa_0 := va_at.kept fa_0 (ho h (by omega))
  replace fp_2 := fp_2.kept (fun q hq => ho q (by omega))
  replace fp_4 := fp_4.kept (fun q hq => ho q (by omega))
  clear ho
  refine lv_dup hx hb dX6_init_30 rfl ?_
  refine xk_I (As := []) (rest := [.ref (h + 165), .ref h]) (sz := (h + 166)) ⟨hx, hb, hml, hown, hts⟩ (k_X0_init l (A := A) (h := (h + 165)) (sz := (h + 166)) (by omega) (fun q hq => hAA q (hq.elim (fun z => Or.inr (by omega)) (fun z => Or.inr (by omega))))) (cwI 0 hts gX6_init_X0_init rfl rfl rfl (hts (.initialized RX0) (List.mem_of_getElem? (i := 11) (by decide +kernel))) (hts (.methodLink RX6 21 yX0_init) (List.mem_of_getElem? (i := 64) (by decide +kernel))) (hts (.instanceMethod yX0_init) (List.mem_of_getElem? (i := 65) (by decide +kernel))) rfl (by decide +kernel) ⟨Nat.le_of_ble_eq_true rfl, Nat.le_of_ble_eq_true rfl⟩) hK hst hnw hS hAA hz fa_5 (fun q hq => hq.elim (fun z => Or.inr (by omega)) (fun z => Or.inr (by omega))) rfl hl.1 rfl (Nat.le_of_ble_eq_true rfl) dX6_init_31 ⟨by decide +kernel, by decide +kernel⟩ (fun H locs fp_6 hz9 ho hS => ?_)
  replace fa_0 := va_at.kept fa_0 (ho h (by omega))
  replace fp_2 := fp_2.kept (fun q hq => ho q (by omega))
  replace fp_4 := fp_4.kept (fun q hq => ho q (by omega))
  clear ho
  replace hz : H.size = (h + 659) := by omega
  clear hz9
  refine xk_putF (ci := 6) (v := .ref (h + 165)) (ty := .object "HalfTickets$History") (C := RX6) (T := TX6) (N := 6) hx hb hts inX6 tyX6 tyX6_ok nmX6 hown hK hS fa_0 hAh rfl 2 (by decide) (hts (.fieldLink RX6 22 "HalfTickets" "history" "LHalfTickets$History;") (List.mem_of_getElem? (i := 12) (by decide +kernel))) (fun _ h9 => h9) rfl hin rfl (by decide +kernel) rfl rfl (Nat.le_of_ble_eq_true rfl) dX6_init_34 (fun H locs fa_0 hz9 ho hS => ?_)
  replace hz := hz9.trans hz
  clear hz9
  have fa_0 : va_at G vwCl (h, .inr (6, [.ref (h + 1), .ref (h + 83), .ref (h + 165), .null, .null, .null])) H := fa_0
  replace fp_2 := fp_2.kept (fun q hq => ho q (by omega))
  replace fp_4 := fp_4.kept (fun q hq => ho q (by omega))
  replace fp_6 := fp_6.kept (fun q hq => ho q (by omega))
  clear ho
  refine lv_aload_n hx hb dX6_init_37 rfl (lv_at hl 0 rfl) ?_
  refine lv_iconst (v := (nI 2)) hx hb dX6_init_38 (by decide) ?_
  refine xk_newq (C := RX2) (h := (h + 659)) (N := 2) hx hb hown (hts (.classLink RX6 7 RX2) (List.mem_of_getElem? (i := 4) (by decide +kernel))) hnw.2.2.2.2.1 hK 5 rfl hS hz rfl (by decide) (Nat.le_of_ble_eq_true rfl) (by decide +kernel) (by decide +kernel) dX6_init_39 (fun H fa_7 hz9 ho hS => ?_)
  replace hz := hz9
  clear hz9
  replace fa_0 := va_at.kept fa_0 (ho h (by omega))
  replace fp_2 := fp_2.kept (fun q hq => ho q (by omega))
  replace fp_4 := fp_4.kept (fun q hq => ho q (by omega))
  replace fp_6 := fp_6.kept (fun q hq => ho q (by omega))
  clear ho
  refine xk_putF (ci := 6) (v := .ref (h + 659)) (ty := .array (.object "HalfTickets$Ministry")) (C := RX6) (T := TX6) (N := 6) hx hb hts inX6 tyX6 tyX6_ok nmX6 hown hK hS fa_0 hAh rfl 3 (by decide) (hts (.fieldLink RX6 26 "HalfTickets" "slots" "[LHalfTickets$Ministry;") (List.mem_of_getElem? (i := 13) (by decide +kernel))) (fun _ h9 => h9) rfl hin rfl (by decide +kernel) rfl rfl (Nat.le_of_ble_eq_true rfl) dX6_init_42 (fun H locs fa_0 hz9 ho hS => ?_)
  replace hz := hz9.trans hz
  clear hz9
  have fa_0 : va_at G vwCl (h, .inr (6, [.ref (h + 1), .ref (h + 83), .ref (h + 165), .ref (h + 659), .null, .null])) H := fa_0
  replace fp_2 := fp_2.kept (fun q hq => ho q (by omega))
  replace fp_4 := fp_4.kept (fun q hq => ho q (by omega))
  replace fp_6 := fp_6.kept (fun q hq => ho q (by omega))
  replace fa_7 := va_at.kept fa_7 (ho (h + 659) (by omega))
  clear ho
  refine lv_iconst (v := (nI 0)) hx hb dX6_init_45 (by decide) ?_
  refine lv_istore_n (lv' := [(1, .int (nI 0)), (0, .ref h)]) hx hb dX6_init_46 rfl hl (by decide) rfl (fun ls hl => ?_)
  refine lv_iload_n hx hb dX6_init_47 rfl (lv_at hl 0 rfl) ?_
  refine lv_aload_n hx hb dX6_init_48 rfl (lv_at hl 1 rfl) ?_
  refine xk_get (ci := 6) (C := RX6) (T := TX6) (N := 6) hx hb hts inX6 hown hK fa_0 rfl 3 (by decide) (hts (.fieldLink RX6 26 "HalfTickets" "slots" "[LHalfTickets$Ministry;") (List.mem_of_getElem? (i := 13) (by decide +kernel))) (fun _ h9 => h9) rfl dX6_init_49 ?_
  refine va_alen hx hb hK (xw_P1 fa_7) 0 5 rfl rfl (v := nI 2) rfl dX6_init_52 ?_
  refine lv_icmp_ge (tgt := 75) hx hb dX6_init_53 (by decide) (fun c_8 => ?_) (fun c_8 => ?_)
  · exact absurd c_8 (by decide)
  · refine lv_aload_n hx hb dX6_init_56 rfl (lv_at hl 1 rfl) ?_
    refine xk_get (ci := 6) (C := RX6) (T := TX6) (N := 6) hx hb hts inX6 hown hK fa_0 rfl 3 (by decide) (hts (.fieldLink RX6 26 "HalfTickets" "slots" "[LHalfTickets$Ministry;") (List.mem_of_getElem? (i := 13) (by decide +kernel))) (fun _ h9 => h9) rfl dX6_init_57 ?_
    refine lv_iload_n hx hb dX6_init_60 rfl (lv_at hl 0 rfl) ?_
    refine xk_new (h := (h + 660)) (ci := 2) (fs := [.null, .null, .null, .int 0, .int 0, .int 0, .int 0]) (C := RX2) (T := TX2) (N := 7) hx hb hts inX2 tyX2 tyX2_ok hown (hts (.classLink RX6 7 RX2) (List.mem_of_getElem? (i := 4) (by decide +kernel))) (hts (.instantiable RX2 7) (List.mem_of_getElem? (i := 5) (by decide +kernel))) (hts (.initialized RX2) (List.mem_of_getElem? (i := 6) (by decide +kernel))) hK hS hz rfl (fun j hj => by rcases (show j = 0 ∨ j = 1 ∨ j = 2 ∨ j = 3 ∨ j = 4 ∨ j = 5 ∨ j = 6 by omega) with rfl | rfl | rfl | rfl | rfl | rfl | rfl <;> rfl) (by decide +kernel) (by decide +kernel) dX6_init_61 (fun H fa_9 hz9 ho hS => ?_)
    replace hz := hz9
    clear hz9
    replace fa_0 := va_at.kept fa_0 (ho h (by omega))
    replace fp_2 := fp_2.kept (fun q hq => ho q (by omega))
    replace fp_4 := fp_4.kept (fun q hq => ho q (by omega))
    replace fp_6 := fp_6.kept (fun q hq => ho q (by omega))
    replace fa_7 := va_at.kept fa_7 (ho (h + 659) (by omega))
    clear ho
    refine lv_dup hx hb dX6_init_64 rfl ?_
    refine xk_I (As := []) (rest := [.ref (h + 660), .int (nI 0), .ref (h + 659)]) (sz := (h + 661)) ⟨hx, hb, hml, hown, hts⟩ (k_X2_init l (A := A) (h := (h + 660)) (sz := (h + 661)) (by omega) (fun q hq => hAA q (hq.elim (fun z => Or.inr (by omega)) (fun z => Or.inr (by omega))))) (cwI 0 hts gX6_init_X2_init rfl rfl rfl (hts (.initialized RX2) (List.mem_of_getElem? (i := 6) (by decide +kernel))) (hts (.methodLink RX6 9 yX2_init) (List.mem_of_getElem? (i := 20) (by decide +kernel))) (hts (.instanceMethod yX2_init) (List.mem_of_getElem? (i := 21) (by decide +kernel))) rfl (by decide +kernel) ⟨Nat.le_of_ble_eq_true rfl, Nat.le_of_ble_eq_true rfl⟩) hK hst hnw hS hAA hz fa_9 (fun q hq => hq.elim (fun z => Or.inr (by omega)) (fun z => Or.inr (by omega))) rfl hl.1 rfl (Nat.le_of_ble_eq_true rfl) dX6_init_65 ⟨by decide +kernel, by decide +kernel⟩ (fun H locs fp_10 hz9 ho hS => ?_)
    replace fa_0 := va_at.kept fa_0 (ho h (by omega))
    replace fp_2 := fp_2.kept (fun q hq => ho q (by omega))
    replace fp_4 := fp_4.kept (fun q hq => ho q (by omega))
    replace fp_6 := fp_6.kept (fun q hq => ho q (by omega))
    replace fa_7 := va_at.kept fa_7 (ho (h + 659) (by omega))
    clear ho
    replace hz : H.size = (h + 742) := by omega
    clear hz9
    refine xk_astq (r := (RX2, TX2, 7)) hx hb hK hS fa_7 (Or.inr (by omega)) 5 rfl fp_10.1 rfl 0 rfl (by decide) (by decide) dX6_init_68 (fun H locs fa_7 hz9 ho hS => ?_)
    replace hz := hz9.trans hz
    clear hz9
    have fa_7 := (show va_at G vwCl _ _ from fa_7)
    replace fa_0 := va_at.kept fa_0 (ho h (by omega))
    replace fp_2 := fp_2.kept (fun q hq => ho q (by omega))
    replace fp_4 := fp_4.kept (fun q hq => ho q (by omega))
    replace fp_6 := fp_6.kept (fun q hq => ho q (by omega))
    replace fp_10 := fp_10.kept (fun q hq => ho q (by omega))
    clear ho
    refine lv_iinc (v := (nI 1)) (lv' := [(1, .int (nI 1)), (0, .ref h)]) hx hb dX6_init_69 hl (k := 0) rfl (rfl) (by decide) rfl (fun ls hl => ?_)
    refine lv_goto (tgt := 47) hx hb dX6_init_72 (by decide) ?_
    refine lv_iload_n hx hb dX6_init_47 rfl (lv_at hl 0 rfl) ?_
    refine lv_aload_n hx hb dX6_init_48 rfl (lv_at hl 1 rfl) ?_
    refine xk_get (ci := 6) (C := RX6) (T := TX6) (N := 6) hx hb hts inX6 hown hK fa_0 rfl 3 (by decide) (hts (.fieldLink RX6 26 "HalfTickets" "slots" "[LHalfTickets$Ministry;") (List.mem_of_getElem? (i := 13) (by decide +kernel))) (fun _ h9 => h9) rfl dX6_init_49 ?_
    refine va_alen hx hb hK (xw_P1 fa_7) 0 5 rfl rfl (v := nI 2) rfl dX6_init_52 ?_
    refine lv_icmp_ge (tgt := 75) hx hb dX6_init_53 (by decide) (fun c_11 => ?_) (fun c_11 => ?_)
    · exact absurd c_11 (by decide)
    · refine lv_aload_n hx hb dX6_init_56 rfl (lv_at hl 1 rfl) ?_
      refine xk_get (ci := 6) (C := RX6) (T := TX6) (N := 6) hx hb hts inX6 hown hK fa_0 rfl 3 (by decide) (hts (.fieldLink RX6 26 "HalfTickets" "slots" "[LHalfTickets$Ministry;") (List.mem_of_getElem? (i := 13) (by decide +kernel))) (fun _ h9 => h9) rfl dX6_init_57 ?_
      refine lv_iload_n hx hb dX6_init_60 rfl (lv_at hl 0 rfl) ?_
      refine xk_new (h := (h + 742)) (ci := 2) (fs := [.null, .null, .null, .int 0, .int 0, .int 0, .int 0]) (C := RX2) (T := TX2) (N := 7) hx hb hts inX2 tyX2 tyX2_ok hown (hts (.classLink RX6 7 RX2) (List.mem_of_getElem? (i := 4) (by decide +kernel))) (hts (.instantiable RX2 7) (List.mem_of_getElem? (i := 5) (by decide +kernel))) (hts (.initialized RX2) (List.mem_of_getElem? (i := 6) (by decide +kernel))) hK hS hz rfl (fun j hj => by rcases (show j = 0 ∨ j = 1 ∨ j = 2 ∨ j = 3 ∨ j = 4 ∨ j = 5 ∨ j = 6 by omega) with rfl | rfl | rfl | rfl | rfl | rfl | rfl <;> rfl) (by decide +kernel) (by decide +kernel) dX6_init_61 (fun H fa_12 hz9 ho hS => ?_)
      replace hz := hz9
      clear hz9
      replace fa_0 := va_at.kept fa_0 (ho h (by omega))
      replace fp_2 := fp_2.kept (fun q hq => ho q (by omega))
      replace fp_4 := fp_4.kept (fun q hq => ho q (by omega))
      replace fp_6 := fp_6.kept (fun q hq => ho q (by omega))
      replace fa_7 := va_at.kept fa_7 (ho (h + 659) (by omega))
      replace fp_10 := fp_10.kept (fun q hq => ho q (by omega))
      clear ho
      refine lv_dup hx hb dX6_init_64 rfl ?_
      refine xk_I (As := []) (rest := [.ref (h + 742), .int (nI 1), .ref (h + 659)]) (sz := (h + 743)) ⟨hx, hb, hml, hown, hts⟩ (k_X2_init l (A := A) (h := (h + 742)) (sz := (h + 743)) (by omega) (fun q hq => hAA q (hq.elim (fun z => Or.inr (by omega)) (fun z => Or.inr (by omega))))) (cwI 0 hts gX6_init_X2_init rfl rfl rfl (hts (.initialized RX2) (List.mem_of_getElem? (i := 6) (by decide +kernel))) (hts (.methodLink RX6 9 yX2_init) (List.mem_of_getElem? (i := 20) (by decide +kernel))) (hts (.instanceMethod yX2_init) (List.mem_of_getElem? (i := 21) (by decide +kernel))) rfl (by decide +kernel) ⟨Nat.le_of_ble_eq_true rfl, Nat.le_of_ble_eq_true rfl⟩) hK hst hnw hS hAA hz fa_12 (fun q hq => hq.elim (fun z => Or.inr (by omega)) (fun z => Or.inr (by omega))) rfl hl.1 rfl (Nat.le_of_ble_eq_true rfl) dX6_init_65 ⟨by decide +kernel, by decide +kernel⟩ (fun H locs fp_13 hz9 ho hS => ?_)
      replace fa_0 := va_at.kept fa_0 (ho h (by omega))
      replace fp_2 := fp_2.kept (fun q hq => ho q (by omega))
      replace fp_4 := fp_4.kept (fun q hq => ho q (by omega))
      replace fp_6 := fp_6.kept (fun q hq => ho q (by omega))
      replace fa_7 := va_at.kept fa_7 (ho (h + 659) (by omega))
      replace fp_10 := fp_10.kept (fun q hq => ho q (by omega))
      clear ho
      replace hz : H.size = (h + 824) := by omega
      clear hz9
      refine xk_astq (r := (RX2, TX2, 7)) hx hb hK hS fa_7 (Or.inr (by omega)) 5 rfl fp_13.1 rfl 1 rfl (by decide) (by decide) dX6_init_68 (fun H locs fa_7 hz9 ho hS => ?_)
      replace hz := hz9.trans hz
      clear hz9
      have fa_7 := (show va_at G vwCl _ _ from fa_7)
      replace fa_0 := va_at.kept fa_0 (ho h (by omega))
      replace fp_2 := fp_2.kept (fun q hq => ho q (by omega))
      replace fp_4 := fp_4.kept (fun q hq => ho q (by omega))
      replace fp_6 := fp_6.kept (fun q hq => ho q (by omega))
      replace fp_10 := fp_10.kept (fun q hq => ho q (by omega))
      replace fp_13 := fp_13.kept (fun q hq => ho q (by omega))
      clear ho
      refine lv_iinc (v := (nI 2)) (lv' := [(1, .int (nI 2)), (0, .ref h)]) hx hb dX6_init_69 hl (k := 0) rfl (rfl) (by decide) rfl (fun ls hl => ?_)
      refine lv_goto (tgt := 47) hx hb dX6_init_72 (by decide) ?_
      refine lv_iload_n hx hb dX6_init_47 rfl (lv_at hl 0 rfl) ?_
      refine lv_aload_n hx hb dX6_init_48 rfl (lv_at hl 1 rfl) ?_
      refine xk_get (ci := 6) (C := RX6) (T := TX6) (N := 6) hx hb hts inX6 hown hK fa_0 rfl 3 (by decide) (hts (.fieldLink RX6 26 "HalfTickets" "slots" "[LHalfTickets$Ministry;") (List.mem_of_getElem? (i := 13) (by decide +kernel))) (fun _ h9 => h9) rfl dX6_init_49 ?_
      refine va_alen hx hb hK (xw_P1 fa_7) 0 5 rfl rfl (v := nI 2) rfl dX6_init_52 ?_
      refine lv_icmp_ge (tgt := 75) hx hb dX6_init_53 (by decide) (fun c_14 => ?_) (fun c_14 => ?_)
      · refine lv_aload_n hx hb dX6_init_75 rfl (lv_at hl 1 rfl) ?_
        refine lv_iconst (v := (nI 2)) hx hb dX6_init_76 (by decide) ?_
        refine xk_newa (atype := .boolean) (h := (h + 824)) (N := 2) hx hb (hts (.arrayClass .boolean) (List.mem_of_getElem? (i := 14) (by decide +kernel))) (hK.2 1 _ rfl).2 hS hz rfl (by decide) (Nat.le_of_ble_eq_true rfl) (by decide +kernel) (by decide +kernel) dX6_init_77 (fun H fa_15 hz9 ho hS => ?_)
        replace hz := hz9
        clear hz9
        have fa_15 : va_at G vwCl ((h + 824), .inl (g 1, 2, .inl (fun _ => nI 0))) H := fa_15
        replace fa_0 := va_at.kept fa_0 (ho h (by omega))
        replace fp_2 := fp_2.kept (fun q hq => ho q (by omega))
        replace fp_4 := fp_4.kept (fun q hq => ho q (by omega))
        replace fp_6 := fp_6.kept (fun q hq => ho q (by omega))
        replace fa_7 := va_at.kept fa_7 (ho (h + 659) (by omega))
        replace fp_10 := fp_10.kept (fun q hq => ho q (by omega))
        replace fp_13 := fp_13.kept (fun q hq => ho q (by omega))
        clear ho
        refine xk_putF (ci := 6) (v := .ref (h + 824)) (ty := .array .boolean) (C := RX6) (T := TX6) (N := 6) hx hb hts inX6 tyX6 tyX6_ok nmX6 hown hK hS fa_0 hAh rfl 4 (by decide) (hts (.fieldLink RX6 30 "HalfTickets" "isSaved" "[Z") (List.mem_of_getElem? (i := 15) (by decide +kernel))) (fun _ h9 => h9) rfl hin rfl (by decide +kernel) rfl rfl (Nat.le_of_ble_eq_true rfl) dX6_init_79 (fun H locs fa_0 hz9 ho hS => ?_)
        replace hz := hz9.trans hz
        clear hz9
        have fa_0 : va_at G vwCl (h, .inr (6, [.ref (h + 1), .ref (h + 83), .ref (h + 165), .ref (h + 659), .ref (h + 824), .null])) H := fa_0
        replace fp_2 := fp_2.kept (fun q hq => ho q (by omega))
        replace fp_4 := fp_4.kept (fun q hq => ho q (by omega))
        replace fp_6 := fp_6.kept (fun q hq => ho q (by omega))
        replace fa_7 := va_at.kept fa_7 (ho (h + 659) (by omega))
        replace fp_10 := fp_10.kept (fun q hq => ho q (by omega))
        replace fp_13 := fp_13.kept (fun q hq => ho q (by omega))
        replace fa_15 := va_at.kept fa_15 (ho (h + 824) (by omega))
        clear ho
        refine lv_aload_n hx hb dX6_init_82 rfl (lv_at hl 1 rfl) ?_
        refine xk_new (h := (h + 825)) (ci := 3) (fs := [.null, .int 0]) (C := RX3) (T := TX3) (N := 2) hx hb hts inX3 tyX3 tyX3_ok hown (hts (.classLink RX6 34 RX3) (List.mem_of_getElem? (i := 16) (by decide +kernel))) (hts (.instantiable RX3 2) (List.mem_of_getElem? (i := 17) (by decide +kernel))) (hts (.initialized RX3) (List.mem_of_getElem? (i := 18) (by decide +kernel))) hK hS hz rfl (fun j hj => by rcases (show j = 0 ∨ j = 1 by omega) with rfl | rfl <;> rfl) (by decide +kernel) (by decide +kernel) dX6_init_83 (fun H fa_16 hz9 ho hS => ?_)
        replace hz := hz9
        clear hz9
        replace fa_0 := va_at.kept fa_0 (ho h (by omega))
        replace fp_2 := fp_2.kept (fun q hq => ho q (by omega))
        replace fp_4 := fp_4.kept (fun q hq => ho q (by omega))
        replace fp_6 := fp_6.kept (fun q hq => ho q (by omega))
        replace fa_7 := va_at.kept fa_7 (ho (h + 659) (by omega))
        replace fp_10 := fp_10.kept (fun q hq => ho q (by omega))
        replace fp_13 := fp_13.kept (fun q hq => ho q (by omega))
        replace fa_15 := va_at.kept fa_15 (ho (h + 824) (by omega))
        clear ho
        refine lv_dup hx hb dX6_init_86 rfl ?_
        refine xk_IN (As := []) (rest := [.ref (h + 825), .ref h]) (sz := (h + 826)) ⟨hx, hb, hml, hown, hts⟩ (k_X3_init l (A := A) (h := (h + 825)) (sz := (h + 826)) (by omega) (fun q hq => hAA q (hq.elim (fun z => Or.inr (by omega)) (fun z => Or.inr (by omega))))) ⟨va_cnB 0 hts gX6_init_X3_init_n36 rfl rfl rfl hnw.2.2.2.1 (hts (.initialized RX3) (List.mem_of_getElem? (i := 18) (by decide +kernel))) (by decide +kernel) ⟨Nat.le_of_ble_eq_true rfl, Nat.le_of_ble_eq_true rfl⟩, rfl, (hts (.instanceMethod yX3_init) (List.mem_of_getElem? (i := 71) (by decide +kernel)))⟩ hK hst hnw hS hAA hz fa_16 (fun q hq => hq.elim (fun z => Or.inr (by omega)) (fun z => Or.inr (by omega))) rfl hl.1 rfl (Nat.le_of_ble_eq_true rfl) dX6_init_87 ⟨by decide +kernel, by decide +kernel⟩ (fun H locs fp_17 hz9 ho hS => ?_)
        replace fa_0 := va_at.kept fa_0 (ho h (by omega))
        replace fp_2 := fp_2.kept (fun q hq => ho q (by omega))
        replace fp_4 := fp_4.kept (fun q hq => ho q (by omega))
        replace fp_6 := fp_6.kept (fun q hq => ho q (by omega))
        replace fa_7 := va_at.kept fa_7 (ho (h + 659) (by omega))
        replace fp_10 := fp_10.kept (fun q hq => ho q (by omega))
        replace fp_13 := fp_13.kept (fun q hq => ho q (by omega))
        replace fa_15 := va_at.kept fa_15 (ho (h + 824) (by omega))
        clear ho
        replace hz : H.size = (h + 827) := by omega
        clear hz9
        refine xk_putF (ci := 6) (v := .ref (h + 825)) (ty := .object "HalfTickets$Pad") (C := RX6) (T := TX6) (N := 6) hx hb hts inX6 tyX6 tyX6_ok nmX6 hown hK hS fa_0 hAh rfl 5 (by decide) (hts (.fieldLink RX6 37 "HalfTickets" "pad" "LHalfTickets$Pad;") (List.mem_of_getElem? (i := 19) (by decide +kernel))) (fun _ h9 => h9) rfl hin rfl (by decide +kernel) rfl rfl (Nat.le_of_ble_eq_true rfl) dX6_init_90 (fun H locs fa_0 hz9 ho hS => ?_)
        replace hz := hz9.trans hz
        clear hz9
        have fa_0 : va_at G vwCl (h, .inr (6, [.ref (h + 1), .ref (h + 83), .ref (h + 165), .ref (h + 659), .ref (h + 824), .ref (h + 825)])) H := fa_0
        replace fp_2 := fp_2.kept (fun q hq => ho q (by omega))
        replace fp_4 := fp_4.kept (fun q hq => ho q (by omega))
        replace fp_6 := fp_6.kept (fun q hq => ho q (by omega))
        replace fa_7 := va_at.kept fa_7 (ho (h + 659) (by omega))
        replace fp_10 := fp_10.kept (fun q hq => ho q (by omega))
        replace fp_13 := fp_13.kept (fun q hq => ho q (by omega))
        replace fa_15 := va_at.kept fa_15 (ho (h + 824) (by omega))
        replace fp_17 := fp_17.kept (fun q hq => ho q (by omega))
        clear ho
        exact W.vret hx hb hr (fun t ht hWm => ⟨⟨(), rfl, trivial, xk_end ht hz (show xk_B G g h H from ⟨fa_0, fp_2, fp_4, fp_6, xk_q fa_7 (fun j hj => by rcases (show j = 0 ∨ j = 1 by omega) with rfl | rfl <;> rfl), (fun j hj => by rcases (show j = 0 ∨ j = 1 by omega) with rfl | rfl; exact fp_10; exact fp_13), fa_15, fp_17⟩)⟩, hS.F ht⟩) hS.2.2 dX6_init_93
      · exact absurd (by decide) c_14
