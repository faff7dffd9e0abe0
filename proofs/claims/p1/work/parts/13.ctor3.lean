set_option maxHeartbeats 4000000 in
set_option maxRecDepth 100000 in
/-- HalfTickets() -/
theorem k_X6_init (l : Launch) {G : va_G} {g : Nat → ClassId} {t0 : Nat → Nat} {A : Nat → Prop} {h sz : Nat} (hh : h + 1 = sz) (hAA : ∀ q, xA_k h sz q → A q)  : Met l yX6_init wsX6_init ({ frames := 5, cells := 826, slots := 8815, locals := 190 }) (va_Pc [.ref h] (xK_p G g t0 A sz h 6 [.null, .null, .null, .null, .null, .null])) (va_Qv (fun _ : Unit => True) (fun _ t => t.heap.size = sz + 826 ∧ xk_B G g h t.heap) (xA_k h sz)) 826 8815 (xA_k h sz) := by
  subst hh
  refine Met.ofW (cc := cX6_init) (maxL := 2) (ret := none) (by decide) rfl ?_
  intro p e s m args below meth c s₁ B hml hv
  obtain ⟨rfl, hz, fa_0, hK, hst, hnw⟩ := hv
  have hx := B.exec
  have hb := B.bytes
  have hr := B.returns
  have hts := atoms_spec (ws := wsX6_init) B.pre
  have hown : s.vm.findClass RX6 = some m.cls := findClass_of_methodNamed B.named
  have hlocks := B.notSynchronized
  have hin : meth.name = "<init>" := (name_of_methodNamed B.named B.method).1
  have hS : va_S (xA_k h (h + 1)) s.heap s.heap [] := va_S.rf
  have hAh : xA_k h (h + 1) h := Or.inl rfl
  have inX0 : ∀ w ∈ u_ws RX0 TX0 3, w ∈ wsX6_init := by decide +kernel
  have inX2 : ∀ w ∈ u_ws RX2 TX2 7, w ∈ wsX6_init := by decide +kernel
  have inX3 : ∀ w ∈ u_ws RX3 TX3 2, w ∈ wsX6_init := by decide +kernel
  have inX6 : ∀ w ∈ u_ws RX6 TX6 6, w ∈ wsX6_init := by decide +kernel
  have hl := lv_entry ([.ref h]) (n := 2) (Nat.le_of_ble_eq_true rfl)
  rw [lg_entry_eq]
  generalize (lg_sl ([.ref h]) ++ List.replicate (2 - (lg_sl ([.ref h])).length) Slot.unset).toArray = ls at hl ⊢
  have hl : lv_has ls 2 [(0, .ref h)] := hl
  refine lv_aload_n hx hb dX6_init_0 rfl (lv_at hl 0 rfl) ?_
  refine W.objInit hx hb hown (hts (.methodLink RX6 1 objectInit) (List.mem_of_getElem? (i := 1) (by decide +kernel))) (hts (.instanceMethod objectInit) (List.mem_of_getElem? (i := 2) (by decide +kernel))) (hts (.code objectInit ⟨#[0xb1]⟩ 1 none) (List.mem_of_getElem? (i := 3) (by decide +kernel))) rfl (by rw [hml]; exact hl.1) rfl dX6_init_1 (Nat.le_of_ble_eq_true rfl) (Nat.le_of_ble_eq_true rfl) ?_
  refine W.eq (g2 := F0 m 4 ls []) rfl ?_
  refine lv_aload_n hx hb dX6_init_4 rfl (lv_at hl 0 rfl) ?_
  refine xk_new (h := (h + 1)) (ci := 2) (fs := [.null, .null, .null, .int 0, .int 0, .int 0, .int 0]) (C := RX2) (T := TX2) (N := 7) hx hb hts inX2 tyX2 tyX2_ok hown (hts (.classLink RX6 7 RX2) (List.mem_of_getElem? (i := 4) (by decide +kernel))) (hts (.instantiable RX2 7) (List.mem_of_getElem? (i := 5) (by decide +kernel))) (hts (.initialized RX2) (List.mem_of_getElem? (i := 6) (by decide +kernel))) hK hS hz rfl (fun j hj => by rcases (show j = 0 ∨ j = 1 ∨ j = 2 ∨ j = 3 ∨ j = 4 ∨ j = 5 ∨ j = 6 by omega) with rfl | rfl | rfl | rfl | rfl | rfl | rfl <;> rfl) (Nat.le_of_ble_eq_true rfl) (Nat.le_of_ble_eq_true rfl) dX6_init_5 (fun H fa_1 hz ho hS => ?_)
  have fa_0 := va_at.kept fa_0 (ho h (by omega))
  refine lv_dup hx hb dX6_init_8 rfl ?_
  refine xk_I (As := []) (rest := [.ref (h + 1), .ref h]) (sz := (h + 2)) ⟨hx, hb, hml, hown, hts⟩ (k_X2_init l (A := A) (h := (h + 1)) (sz := (h + 2)) (by omega) (fun q hq => hAA q (hq.elim (fun z => Or.inr (by omega)) (fun z => Or.inr (by omega))))) (cwI 0 hts gX6_init_X2_init rfl rfl rfl (hts (.initialized RX2) (List.mem_of_getElem? (i := 6) (by decide +kernel))) (hts (.methodLink RX6 9 yX2_init) (List.mem_of_getElem? (i := 20) (by decide +kernel))) (hts (.instanceMethod yX2_init) (List.mem_of_getElem? (i := 21) (by decide +kernel))) rfl (by decide +kernel) ⟨Nat.le_of_ble_eq_true rfl, Nat.le_of_ble_eq_true rfl⟩) hK hst hnw hS hAA hz fa_1 (fun q hq => hq.elim (fun z => Or.inr (by omega)) (fun z => Or.inr (by omega))) rfl hl.1 rfl (Nat.le_of_ble_eq_true rfl) dX6_init_9 ⟨Nat.le_of_ble_eq_true rfl, Nat.le_of_ble_eq_true rfl⟩ (fun H locs fp_2 hz ho hS => ?_)
  have fa_0 := va_at.kept fa_0 (ho h (by omega))
  have hz : H.size = (h + 83) := by omega
  refine xk_putF (ci := 6) (v := .ref (h + 1)) (ty := .object "HalfTickets$Ministry") (C := RX6) (T := TX6) (N := 6) hx hb hts inX6 tyX6 tyX6_ok nmX6 hown hK hS fa_0 hAh rfl 0 (by decide) (hts (.fieldLink RX6 10 "HalfTickets" "now" "LHalfTickets$Ministry;") (List.mem_of_getElem? (i := 7) (by decide +kernel))) (fun _ h9 => h9) rfl hin rfl (by decide +kernel) rfl rfl (Nat.le_of_ble_eq_true rfl) dX6_init_12 (fun H locs fa_0 hz9 ho hS => ?_)
  replace hz := hz9.trans hz
  have fa_0 : va_at G vwCl (h, .inr (6, [.ref (h + 1), .null, .null, .null, .null, .null])) H := fa_0
  have fp_2 := fp_2.kept (fun q hq => ho q (by omega))
  refine lv_aload_n hx hb dX6_init_15 rfl (lv_at hl 0 rfl) ?_
  refine xk_new (h := (h + 83)) (ci := 2) (fs := [.null, .null, .null, .int 0, .int 0, .int 0, .int 0]) (C := RX2) (T := TX2) (N := 7) hx hb hts inX2 tyX2 tyX2_ok hown (hts (.classLink RX6 7 RX2) (List.mem_of_getElem? (i := 4) (by decide +kernel))) (hts (.instantiable RX2 7) (List.mem_of_getElem? (i := 5) (by decide +kernel))) (hts (.initialized RX2) (List.mem_of_getElem? (i := 6) (by decide +kernel))) hK hS hz rfl (fun j hj => by rcases (show j = 0 ∨ j = 1 ∨ j = 2 ∨ j = 3 ∨ j = 4 ∨ j = 5 ∨ j = 6 by omega) with rfl | rfl | rfl | rfl | rfl | rfl | rfl <;> rfl) (Nat.le_of_ble_eq_true rfl) (Nat.le_of_ble_eq_true rfl) dX6_init_16 (fun H fa_3 hz ho hS => ?_)
  have fa_0 := va_at.kept fa_0 (ho h (by omega))
  have fp_2 := fp_2.kept (fun q hq => ho q (by omega))
  refine lv_dup hx hb dX6_init_19 rfl ?_
  refine xk_I (As := []) (rest := [.ref (h + 83), .ref h]) (sz := (h + 84)) ⟨hx, hb, hml, hown, hts⟩ (k_X2_init l (A := A) (h := (h + 83)) (sz := (h + 84)) (by omega) (fun q hq => hAA q (hq.elim (fun z => Or.inr (by omega)) (fun z => Or.inr (by omega))))) (cwI 0 hts gX6_init_X2_init rfl rfl rfl (hts (.initialized RX2) (List.mem_of_getElem? (i := 6) (by decide +kernel))) (hts (.methodLink RX6 9 yX2_init) (List.mem_of_getElem? (i := 20) (by decide +kernel))) (hts (.instanceMethod yX2_init) (List.mem_of_getElem? (i := 21) (by decide +kernel))) rfl (by decide +kernel) ⟨Nat.le_of_ble_eq_true rfl, Nat.le_of_ble_eq_true rfl⟩) hK hst hnw hS hAA hz fa_3 (fun q hq => hq.elim (fun z => Or.inr (by omega)) (fun z => Or.inr (by omega))) rfl hl.1 rfl (Nat.le_of_ble_eq_true rfl) dX6_init_20 ⟨Nat.le_of_ble_eq_true rfl, Nat.le_of_ble_eq_true rfl⟩ (fun H locs fp_4 hz ho hS => ?_)
  have fa_0 := va_at.kept fa_0 (ho h (by omega))
  have fp_2 := fp_2.kept (fun q hq => ho q (by omega))
  have hz : H.size = (h + 165) := by omega
  refine xk_putF (ci := 6) (v := .ref (h + 83)) (ty := .object "HalfTickets$Ministry") (C := RX6) (T := TX6) (N := 6) hx hb hts inX6 tyX6 tyX6_ok nmX6 hown hK hS fa_0 hAh rfl 1 (by decide) (hts (.fieldLink RX6 16 "HalfTickets" "trial" "LHalfTickets$Ministry;") (List.mem_of_getElem? (i := 8) (by decide +kernel))) (fun _ h9 => h9) rfl hin rfl (by decide +kernel) rfl rfl (Nat.le_of_ble_eq_true rfl) dX6_init_23 (fun H locs fa_0 hz9 ho hS => ?_)
  replace hz := hz9.trans hz
  have fa_0 : va_at G vwCl (h, .inr (6, [.ref (h + 1), .ref (h + 83), .null, .null, .null, .null])) H := fa_0
  have fp_2 := fp_2.kept (fun q hq => ho q (by omega))
  have fp_4 := fp_4.kept (fun q hq => ho q (by omega))
  refine lv_aload_n hx hb dX6_init_26 rfl (lv_at hl 0 rfl) ?_
  refine xk_new (h := (h + 165)) (ci := 0) (fs := [.null, .int 0, .int 0]) (C := RX0) (T := TX0) (N := 3) hx hb hts inX0 tyX0 tyX0_ok hown (hts (.classLink RX6 19 RX0) (List.mem_of_getElem? (i := 9) (by decide +kernel))) (hts (.instantiable RX0 3) (List.mem_of_getElem? (i := 10) (by decide +kernel))) (hts (.initialized RX0) (List.mem_of_getElem? (i := 11) (by decide +kernel))) hK hS hz rfl (fun j hj => by rcases (show j = 0 ∨ j = 1 ∨ j = 2 by omega) with rfl | rfl | rfl <;> rfl) (Nat.le_of_ble_eq_true rfl) (Nat.le_of_ble_eq_true rfl) dX6_init_27 (fun H fa_5 hz ho hS => ?_)
  have fa_0 := va_at.kept fa_0 (ho h (by omega))
  have fp_2 := fp_2.kept (fun q hq => ho q (by omega))
  have fp_4 := fp_4.kept (fun q hq => ho q (by omega))
  refine lv_dup hx hb dX6_init_30 rfl ?_
  refine xk_I (As := []) (rest := [.ref (h + 165), .ref h]) (sz := (h + 166)) ⟨hx, hb, hml, hown, hts⟩ (k_X0_init l (A := A) (h := (h + 165)) (sz := (h + 166)) (by omega) (fun q hq => hAA q (hq.elim (fun z => Or.inr (by omega)) (fun z => Or.inr (by omega))))) (cwI 0 hts gX6_init_X0_init rfl rfl rfl (hts (.initialized RX0) (List.mem_of_getElem? (i := 11) (by decide +kernel))) (hts (.methodLink RX6 21 yX0_init) (List.mem_of_getElem? (i := 64) (by decide +kernel))) (hts (.instanceMethod yX0_init) (List.mem_of_getElem? (i := 65) (by decide +kernel))) rfl (by decide +kernel) ⟨Nat.le_of_ble_eq_true rfl, Nat.le_of_ble_eq_true rfl⟩) hK hst hnw hS hAA hz fa_5 (fun q hq => hq.elim (fun z => Or.inr (by omega)) (fun z => Or.inr (by omega))) rfl hl.1 rfl (Nat.le_of_ble_eq_true rfl) dX6_init_31 ⟨Nat.le_of_ble_eq_true rfl, Nat.le_of_ble_eq_true rfl⟩ (fun H locs fp_6 hz ho hS => ?_)
  have fa_0 := va_at.kept fa_0 (ho h (by omega))
  have fp_2 := fp_2.kept (fun q hq => ho q (by omega))
  have fp_4 := fp_4.kept (fun q hq => ho q (by omega))
  have hz : H.size = (h + 659) := by omega
  sorry
