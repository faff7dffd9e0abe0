/-! THE LAW ITSELF -/
/-- a call of a static method that makes cells -/
theorem xr_I {p : Program} {l : Launch} {e : Env} {R : Room} {s : State} {m : MethodId} {args : Array Value} {below : List Frame} {meth : Method} {c : Code} {H : Heap} {locs : List Loc} {cells slots : Nat} {Q : State → Prop} {cc : ByteArray} {pc : Nat} {ls : Array Slot} {rest : List Value} {G : va_G} {g : Nat → ClassId} {t0 τ : Nat → Nat} {A : Nat → Prop} {M : xm_T}
    {y : MethodName} {bytes : ByteArray} {maxL nL n index mc ms : Nat} {ret : Option FieldType} {ws : List Cond} {rm : Room} {post : Int32 → xm_T → Prop} {Ts : List Cond} {own : String} {As st : List Value}
    (S : CallFix p m c cc nL s args Ts own) (hM : Met l y ws rm (va_Pc As (fun U => xS_t G g t0 τ A M U ∧ ∀ q, U.heap.size ≤ q → A q)) (va_Qi post (fun M' t => xw_D G g τ M' t.heap) A) mc ms A) (cw : CallB R s args own index y bytes maxL ret ws rm mc ms n ∧ (Cond.static y).before args s = true) (hK : va_K G vwCl (xw_tys g) s) (hst : xw_st t0 A s s.heap) (hnw : xw_nw g s) (hS : va_S A s.heap H locs) (hW : xw_D G g τ M H) (hAs : ∀ q, s.heap.size ≤ q → A q)
    (hn : As.length = n) (hsize : ls.size = nL) (hstack : st = As.reverse ++ rest) (hWd : (rest.map fun v => v.category).sum ≤ 8) (hdg : decode cc pc = .ok (.invokestatic index, 3)) (hf : cells + mc ≤ R.cells ∧ slots + ms ≤ R.slots)
    (kk : ∀ (r : Int32) (M' : xm_T) (H1 : Heap) (locs1 : List Loc), post r M' → xw_D G g τ M' H1 → va_S A s.heap H1 locs1 → W p l e R s m args below meth c H1 locs1 (cells + mc) (slots + ms) Q (F0 m (pc + 3) ls (.int r :: rest))) : W p l e R s m args below meth c H locs cells slots Q (F0 m pc ls st) :=
  va_calli (va_runS S hM cw ⟨fun _ _ _ _ h => ⟨h.1, xS_call h.2.1, h.2.2⟩, fun U hU hWm => ⟨rfl, xS_mk hK hst hnw hS hW hU hWm, fun q hq => hAs q (Nat.le_trans hS.1 (by rw [← hU]; exact hq))⟩⟩ rfl hn hsize hstack (lv_room hWd) hdg hf) hS (fun _ _ h => h) (fun _ h => h) (fun r u t H1 locs1 ht _ hp hB _ _ hS1 => kk r u H1 locs1 hp (by rw [← ht]; exact hB) hS1)
/-- what holds in the law all along -/
def lx_C (p : Program) (s : State) (m : MethodId) (meth : Method) (c : Code) (b : Nat) (xs : Nat → Int32) (L : Nat) (G : va_G) (g : Nat → ClassId) (t0 : Nat → Nat) : Prop :=
  L ≤ 260 ∧ lw_At p s m meth c b L xs ∧ va_K G vwCl (xw_tys g) s ∧ xw_st t0 (fun q => s.heap.size ≤ q) s s.heap ∧ xw_nw g s

set_option maxHeartbeats 4000000 in
set_option maxRecDepth 100000 in
theorem lx_end {p : Program} {e : Env} {s : State} {m : MethodId} {below : List Frame} {meth : Method} {c : Code} (l : Launch) {b L : Nat} {xs : Nat → Int32} {G : va_G} {g : Nat → ClassId} {t0 : Nat → Nat} {H : Heap} {locs : List Loc} {ls : Array Slot} {z : xm_T} {cells slots : Nat} (hc1 : cells ≤ 590000) (hc2 : slots ≤ 7300000) (C0 : lx_C p s m meth c b xs L G g t0) (hS : va_S (fun q => s.heap.size ≤ q) s.heap H locs) (hW : xw_D G g (zw_t s.heap.size) z H) (hL : zL s.heap.size (s.heap.size + 827) 49 z) (hl : lv_has ls 5 [(3, .int (nI 1)), (2, .ref (s.heap.size + 827)), (1, .ref s.heap.size), (0, .ref b)]) : W p l e room_1 s m #[Value.ref b] below meth c H locs cells slots (lw_Z below #[Value.ref b] s) (F0 m 96 ls []) := by
  have C1 := C0
  obtain ⟨hL260, ⟨hx, hb, hr, hml, hown, htb, hX, hbl, hlocks, hgv⟩, hK, hst, hnw⟩ := C0
  have hts : ∀ w ∈ wsL_law, w.before #[Value.ref b] s = true := fun w h => htb w (wsL_law_in w h)
  have hbA : ¬ (fun q => s.heap.size ≤ q) b := Nat.not_le.mpr hbl
  have O := zw_O s.heap.size
  refine lv_iload_n hx hb dL_law_96 rfl (lv_at hl 0 rfl) ?_
  refine lv_if_eq (tgt := 125) hx hb dL_law_97 (by decide) (fun c_1 => ?_) (fun c_1 => ?_)
  · exact absurd c_1 (by decide)
  · refine lv_aload_n hx hb dL_law_100 rfl (lv_at hl 2 rfl) ?_
    obtain ⟨-, -, ⟨nn, TT, hT, hz⟩, -, -⟩ := id hL
    refine xr_I (As := [.ref s.heap.size]) (rest := []) ⟨hx, hb, hml, hown, hts⟩ (c_L_isWell l O z s.heap.size (zw_16 _) hz (by omega) (by omega)) (va_cwS 1 hts gL_law_L_isWell rfl rfl rfl (by decide +kernel) ⟨Nat.le_of_ble_eq_true rfl, Nat.le_of_ble_eq_true rfl⟩) hK hst hnw hS hW (fun _ h => h) rfl hl.1 rfl (Nat.le_of_ble_eq_true rfl) dL_law_101 ⟨by show cells + 1 ≤ 600000; omega, by show slots + 4 ≤ 7302250; omega⟩ (fun r_2 M_3 H locs hq_4 hW hS => ?_)
    obtain ⟨hq_4a, hq_4b⟩ := hq_4
    rw [hq_4b] at hW
    rw [hq_4a]
    refine lv_if_eq (tgt := 125) hx hb dL_law_104 (by decide) (fun c_5 => ?_) (fun c_5 => ?_)
    · exact absurd c_5 (by decide)
    · refine lv_aload_n hx hb dL_law_107 rfl (lv_at hl 2 rfl) ?_
      refine lv_aload_n hx hb dL_law_108 rfl (lv_at hl 1 rfl) ?_
      refine lv_aload_n hx hb dL_law_109 rfl (lv_at hl 3 rfl) ?_
      refine lv_bipush (v := (nI 50)) hx hb dL_law_110 (by decide) ?_
      refine xc_i (xr_X (As := [.ref b, .int (nI 50)]) (rest := [.ref (s.heap.size + 827), .ref s.heap.size]) (b := b) (L := L) (xs := xs) ⟨hx, hb, hml, hown, hts⟩ (c_L_cell l O z (y := b) (L := L) (k := 50) (xs := xs) hL260 (by omega)) (va_cwS 2 hts gL_law_L_cell rfl rfl rfl (by decide +kernel) ⟨Nat.le_of_ble_eq_true rfl, Nat.le_of_ble_eq_true rfl⟩) hK hst hnw hS hW hX hbl hbA rfl hl.1 rfl (Nat.le_of_ble_eq_true rfl) dL_law_112 ⟨by show cells + 1 ≤ 600000; omega, by show slots + 4 ≤ 7302250; omega⟩) hS (fun r_6 M_7 H locs hq_8 hW hS => ?_)
      rw [hq_8] at hW
      refine xc_i (xr_S (As := [.ref s.heap.size, .ref (s.heap.size + 827), .int r_6]) (rest := []) ⟨hx, hb, hml, hown, hts⟩ (c_L_areAlike l O z s.heap.size (s.heap.size + 827) 49 (zw_16 _) (zw_16c _) (Nat.le_refl _) hL (by omega) r_6) (va_cwS 3 hts gL_law_L_areAlike rfl rfl rfl (by decide +kernel) ⟨Nat.le_of_ble_eq_true rfl, Nat.le_of_ble_eq_true rfl⟩) hK hst hnw hS hW rfl hl.1 rfl (Nat.le_of_ble_eq_true rfl) dL_law_115 ⟨by show cells + 1 ≤ 600000; omega, by show slots + 4 ≤ 7302250; omega⟩) hS (fun r_11 M_9 H locs hq_10 hW hS => ?_)
      rw [hq_10]
      refine lv_if_eq (tgt := 125) hx hb dL_law_118 (by decide) (fun c_12 => ?_) (fun c_12 => ?_)
      · exact absurd c_12 (by decide)
      · refine lv_iconst (v := (nI 1)) hx hb dL_law_121 (by decide) ?_
        refine lv_goto (tgt := 126) hx hb dL_law_122 (by decide) ?_
        refine va_forget (fun q hq => hS.2.2 q hq) ?_
        refine W.widen (k := 600000) (n := 7302250) (by omega) (by omega) ?_
        exact lw_ret hx hb hr hlocks dL_law_126

set_option maxHeartbeats 4000000 in
set_option maxRecDepth 100000 in
theorem lx_35 {p : Program} {e : Env} {s : State} {m : MethodId} {below : List Frame} {meth : Method} {c : Code} (l : Launch) {b L : Nat} {xs : Nat → Int32} {G : va_G} {g : Nat → ClassId} {t0 : Nat → Nat} {H : Heap} {locs : List Loc} {ls : Array Slot} {z : xm_T} {i : Nat} (hi : i < 48) (C0 : lx_C p s m meth c b xs L G g t0) (hS : va_S (fun q => s.heap.size ≤ q) s.heap H locs) (hW : xw_D G g (zw_t s.heap.size) z H) (hL : zL s.heap.size (s.heap.size + 827) (i + 1) z) (hl : lv_has ls 5 [(4, .int (nI (i + 2))), (3, .int (nI 1)), (2, .ref (s.heap.size + 827)), (1, .ref s.heap.size), (0, .ref b)]) (kk : ∀ (H : Heap) (locs : List Loc) (ls : Array Slot) (z : xm_T), va_S (fun q => s.heap.size ≤ q) s.heap H locs → xw_D G g (zw_t s.heap.size) z H → zL s.heap.size (s.heap.size + 827) (i + 2) z → lv_has ls 5 [(4, .int (nI (i + 1 + 2))), (3, .int (nI 1)), (2, .ref (s.heap.size + 827)), (1, .ref s.heap.size), (0, .ref b)] → W p l e room_1 s m #[Value.ref b] below meth c H locs (1654 + (i + 1)) (17642 + 4 * (i + 1)) (lw_Z below #[Value.ref b] s) (F0 m 35 ls [])) : W p l e room_1 s m #[Value.ref b] below meth c H locs (1654 + i) (17642 + 4 * i) (lw_Z below #[Value.ref b] s) (F0 m 35 ls []) := by
  have C1 := C0
  obtain ⟨hL260, ⟨hx, hb, hr, hml, hown, htb, hX, hbl, hlocks, hgv⟩, hK, hst, hnw⟩ := C0
  have hts : ∀ w ∈ wsL_law, w.before #[Value.ref b] s = true := fun w h => htb w (wsL_law_in w h)
  have hbA : ¬ (fun q => s.heap.size ≤ q) b := Nat.not_le.mpr hbl
  have O := zw_O s.heap.size
  refine lv_iload hx hb dL_law_35 (lv_at hl 0 rfl) ?_
  refine lv_bipush (v := (nI 50)) hx hb dL_law_37 (by decide) ?_
  refine lv_icmp_ge (tgt := 96) hx hb dL_law_39 (by decide) (fun c_1 => ?_) (fun c_1 => ?_)
  · exact absurd c_1 (nI_ge (by omega) (by omega))
  · refine lv_iload_n hx hb dL_law_42 rfl (lv_at hl 1 rfl) ?_
    refine lv_if_eq (tgt := 96) hx hb dL_law_43 (by decide) (fun c_2 => ?_) (fun c_2 => ?_)
    · exact absurd c_2 (by decide)
    · refine lv_aload_n hx hb dL_law_46 rfl (lv_at hl 3 rfl) ?_
      refine lv_aload_n hx hb dL_law_47 rfl (lv_at hl 2 rfl) ?_
      refine lv_aload_n hx hb dL_law_48 rfl (lv_at hl 4 rfl) ?_
      refine lv_iload hx hb dL_law_49 (lv_at hl 0 rfl) ?_
      refine xc_i (xr_X (As := [.ref b, .int (nI (i + 2))]) (rest := [.ref (s.heap.size + 827), .ref s.heap.size]) (b := b) (L := L) (xs := xs) ⟨hx, hb, hml, hown, hts⟩ (c_L_cell l O z (y := b) (L := L) (k := (i + 2)) (xs := xs) hL260 (by omega)) (va_cwS 2 hts gL_law_L_cell rfl rfl rfl (by decide +kernel) ⟨Nat.le_of_ble_eq_true rfl, Nat.le_of_ble_eq_true rfl⟩) hK hst hnw hS hW hX hbl hbA rfl hl.1 rfl (Nat.le_of_ble_eq_true rfl) dL_law_51 ⟨by show (1654 + i) ≤ 600000; omega, by show (17642 + 4 * i) ≤ 7302250; omega⟩) hS (fun r_3 M_4 H locs hq_5 hW hS => ?_)
      rw [hq_5] at hW
      refine lv_aload_n hx hb dL_law_54 rfl (lv_at hl 4 rfl) ?_
      refine lv_iload hx hb dL_law_55 (lv_at hl 0 rfl) ?_
      refine lv_iconst (v := (nI 1)) hx hb dL_law_57 (by decide) ?_
      refine lv_iadd hx hb dL_law_58 ?_
      rw [show (nI (i + 2)) + (nI 1) = (nI (i + 3)) from nI_add _ 1]
      refine xc_i (xr_X (As := [.ref b, .int (nI (i + 3))]) (rest := [.int r_3, .ref (s.heap.size + 827), .ref s.heap.size]) (b := b) (L := L) (xs := xs) ⟨hx, hb, hml, hown, hts⟩ (c_L_cell l O z (y := b) (L := L) (k := (i + 3)) (xs := xs) hL260 (by omega)) (va_cwS 2 hts gL_law_L_cell rfl rfl rfl (by decide +kernel) ⟨Nat.le_of_ble_eq_true rfl, Nat.le_of_ble_eq_true rfl⟩) hK hst hnw hS hW hX hbl hbA rfl hl.1 rfl (Nat.le_of_ble_eq_true rfl) dL_law_59 ⟨by show (1654 + i) ≤ 600000; omega, by show (17642 + 4 * i) ≤ 7302250; omega⟩) hS (fun r_6 M_7 H locs hq_8 hW hS => ?_)
      rw [hq_8] at hW
      refine lv_iconst (v := (nI 2)) hx hb dL_law_62 (by decide) ?_
      refine lv_ishr hx hb dL_law_63 ?_
      refine xc_i (xr_S (As := [.ref s.heap.size, .ref (s.heap.size + 827), .int r_3, .int (r_6 >>> ((nI 2) &&& 31))]) (rest := []) ⟨hx, hb, hml, hown, hts⟩ (c_L_isStep l O z s.heap.size (s.heap.size + 827) (i + 1) (zw_16 _) (zw_16c _) (Nat.le_refl _) hL (by omega) r_3 (r_6 >>> ((nI 2) &&& 31))) (va_cwS 4 hts gL_law_L_isStep rfl rfl rfl (by decide +kernel) ⟨Nat.le_of_ble_eq_true rfl, Nat.le_of_ble_eq_true rfl⟩) hK hst hnw hS hW rfl hl.1 rfl (Nat.le_of_ble_eq_true rfl) dL_law_64 ⟨by show (1654 + i) ≤ 600000; omega, by show (17642 + 4 * i) ≤ 7302250; omega⟩) hS (fun r_11 M_9 H locs hq_10 hW hS => ?_)
      obtain ⟨hq_10a, hL2⟩ := hq_10
      rw [hq_10a]
      refine lv_if_eq (tgt := 88) hx hb dL_law_67 (by decide) (fun c_12 => ?_) (fun c_12 => ?_)
      · exact absurd c_12 (by decide)
      · refine lv_iload hx hb dL_law_70 (lv_at hl 0 rfl) ?_
        refine lv_iconst (v := (nI 3)) hx hb dL_law_72 (by decide) ?_
        refine lv_irem hx hb dL_law_73 (nI_ne0 (by omega) (by omega)) ?_
        rw [show (nI (i + 2)) - (nI (i + 2)) / (nI 3) * (nI 3) = (nI ((i + 2) % 3)) from pk_rem (by omega) (by omega) (by omega)]
        refine lv_if_gt (tgt := 84) hx hb dL_law_74 (by decide) (fun c_13 => ?_) (fun c_13 => ?_)
        · refine lv_iconst (v := (nI 1)) hx hb dL_law_84 (by decide) ?_
          refine lv_goto (tgt := 89) hx hb dL_law_85 (by decide) ?_
          refine lv_istore_n (lv' := [(3, .int (nI 1)), (4, .int (nI (i + 2))), (2, .ref (s.heap.size + 827)), (1, .ref s.heap.size), (0, .ref b)]) hx hb dL_law_89 rfl hl (by decide) rfl (fun ls hl => ?_)
          refine lv_iinc (v := (nI ((i + 2) + 1))) (lv' := [(4, .int (nI ((i + 2) + 1))), (3, .int (nI 1)), (2, .ref (s.heap.size + 827)), (1, .ref s.heap.size), (0, .ref b)]) hx hb dL_law_90 hl (k := 1) rfl ((nI_1 (i + 2))) (by decide) rfl (fun ls hl => ?_)
          refine lv_goto (tgt := 35) hx hb dL_law_93 (by decide) ?_
          refine W.widen (k := 1654 + (i + 1)) (n := 17642 + 4 * (i + 1)) (by omega) (by omega) ?_
          exact kk _ _ _ _ hS hW hL2 (lv_sub hl [0, 1, 2, 3, 4] rfl)
        · refine lv_aload_n hx hb dL_law_77 rfl (lv_at hl 3 rfl) ?_
          obtain ⟨-, -, ⟨nn, TT, hT, hz⟩, -, -⟩ := id hL2
          refine xr_I (As := [.ref s.heap.size]) (rest := []) ⟨hx, hb, hml, hown, hts⟩ (c_L_isWell l O M_9 s.heap.size (zw_16 _) hz (by omega) (by omega)) (va_cwS 1 hts gL_law_L_isWell rfl rfl rfl (by decide +kernel) ⟨Nat.le_of_ble_eq_true rfl, Nat.le_of_ble_eq_true rfl⟩) hK hst hnw hS hW (fun _ h => h) rfl hl.1 rfl (Nat.le_of_ble_eq_true rfl) dL_law_78 ⟨by show (1654 + i) + 1 ≤ 600000; omega, by show (17642 + 4 * i) + 4 ≤ 7302250; omega⟩ (fun r_14 M_15 H locs hq_16 hW hS => ?_)
          obtain ⟨hq_16a, hq_16b⟩ := hq_16
          rw [hq_16b] at hW
          rw [hq_16a]
          refine lv_if_eq (tgt := 88) hx hb dL_law_81 (by decide) (fun c_17 => ?_) (fun c_17 => ?_)
          · exact absurd c_17 (by decide)
          · refine lv_iconst (v := (nI 1)) hx hb dL_law_84 (by decide) ?_
            refine lv_goto (tgt := 89) hx hb dL_law_85 (by decide) ?_
            refine lv_istore_n (lv' := [(3, .int (nI 1)), (4, .int (nI (i + 2))), (2, .ref (s.heap.size + 827)), (1, .ref s.heap.size), (0, .ref b)]) hx hb dL_law_89 rfl hl (by decide) rfl (fun ls hl => ?_)
            refine lv_iinc (v := (nI ((i + 2) + 1))) (lv' := [(4, .int (nI ((i + 2) + 1))), (3, .int (nI 1)), (2, .ref (s.heap.size + 827)), (1, .ref s.heap.size), (0, .ref b)]) hx hb dL_law_90 hl (k := 1) rfl ((nI_1 (i + 2))) (by decide) rfl (fun ls hl => ?_)
            refine lv_goto (tgt := 35) hx hb dL_law_93 (by decide) ?_
            refine W.widen (k := 1654 + (i + 1)) (n := 17642 + 4 * (i + 1)) (by omega) (by omega) ?_
            exact kk _ _ _ _ hS hW hL2 (lv_sub hl [0, 1, 2, 3, 4] rfl)

set_option maxHeartbeats 4000000 in
set_option maxRecDepth 100000 in
theorem lx_16 {p : Program} {e : Env} {s : State} {m : MethodId} {below : List Frame} {meth : Method} {c : Code} (l : Launch) {b L : Nat} {xs : Nat → Int32} {G : va_G} {g : Nat → ClassId} {t0 : Nat → Nat} {H : Heap} {locs : List Loc} {ls : Array Slot} {z : xm_T} (C0 : lx_C p s m meth c b xs L G g t0) (hS : va_S (fun q => s.heap.size ≤ q) s.heap H locs) (hW : xw_D G g (zw_t s.heap.size) z H) (hL : zL s.heap.size (s.heap.size + 827) 0 z) (hl : lv_has ls 5 [(2, .ref (s.heap.size + 827)), (1, .ref s.heap.size), (0, .ref b)]) : W p l e room_1 s m #[Value.ref b] below meth c H locs 1654 17642 (lw_Z below #[Value.ref b] s) (F0 m 16 ls []) := by
  have C1 := C0
  obtain ⟨hL260, ⟨hx, hb, hr, hml, hown, htb, hX, hbl, hlocks, hgv⟩, hK, hst, hnw⟩ := C0
  have hts : ∀ w ∈ wsL_law, w.before #[Value.ref b] s = true := fun w h => htb w (wsL_law_in w h)
  have hbA : ¬ (fun q => s.heap.size ≤ q) b := Nat.not_le.mpr hbl
  have O := zw_O s.heap.size
  refine lv_aload_n hx hb dL_law_16 rfl (lv_at hl 1 rfl) ?_
  refine lv_aload_n hx hb dL_law_17 rfl (lv_at hl 0 rfl) ?_
  refine lv_aload_n hx hb dL_law_18 rfl (lv_at hl 2 rfl) ?_
  refine lv_iconst (v := (nI 0)) hx hb dL_law_19 (by decide) ?_
  refine xc_i (xr_X (As := [.ref b, .int (nI 0)]) (rest := [.ref (s.heap.size + 827), .ref s.heap.size]) (b := b) (L := L) (xs := xs) ⟨hx, hb, hml, hown, hts⟩ (c_L_cell l O z (y := b) (L := L) (k := 0) (xs := xs) hL260 (by omega)) (va_cwS 2 hts gL_law_L_cell rfl rfl rfl (by decide +kernel) ⟨Nat.le_of_ble_eq_true rfl, Nat.le_of_ble_eq_true rfl⟩) hK hst hnw hS hW hX hbl hbA rfl hl.1 rfl (Nat.le_of_ble_eq_true rfl) dL_law_20 ⟨by show 1654 ≤ 600000; omega, by show 17642 ≤ 7302250; omega⟩) hS (fun r_1 M_2 H locs hq_3 hW hS => ?_)
  rw [hq_3] at hW
  refine lv_aload_n hx hb dL_law_23 rfl (lv_at hl 2 rfl) ?_
  refine lv_iconst (v := (nI 1)) hx hb dL_law_24 (by decide) ?_
  refine xc_i (xr_X (As := [.ref b, .int (nI 1)]) (rest := [.int r_1, .ref (s.heap.size + 827), .ref s.heap.size]) (b := b) (L := L) (xs := xs) ⟨hx, hb, hml, hown, hts⟩ (c_L_cell l O z (y := b) (L := L) (k := 1) (xs := xs) hL260 (by omega)) (va_cwS 2 hts gL_law_L_cell rfl rfl rfl (by decide +kernel) ⟨Nat.le_of_ble_eq_true rfl, Nat.le_of_ble_eq_true rfl⟩) hK hst hnw hS hW hX hbl hbA rfl hl.1 rfl (Nat.le_of_ble_eq_true rfl) dL_law_25 ⟨by show 1654 ≤ 600000; omega, by show 17642 ≤ 7302250; omega⟩) hS (fun r_4 M_5 H locs hq_6 hW hS => ?_)
  rw [hq_6] at hW
  refine xc_i (xr_S (As := [.ref s.heap.size, .ref (s.heap.size + 827), .int r_1, .int r_4]) (rest := []) ⟨hx, hb, hml, hown, hts⟩ (c_L_isRead l O z s.heap.size (s.heap.size + 827) 0 (zw_16 _) (zw_16c _) (Nat.le_refl _) hL (by omega) r_1 r_4) (va_cwS 4 hts gL_law_L_isRead rfl rfl rfl (by decide +kernel) ⟨Nat.le_of_ble_eq_true rfl, Nat.le_of_ble_eq_true rfl⟩) hK hst hnw hS hW rfl hl.1 rfl (Nat.le_of_ble_eq_true rfl) dL_law_28 ⟨by show 1654 ≤ 600000; omega, by show 17642 ≤ 7302250; omega⟩) hS (fun r_9 M_7 H locs hq_8 hW hS => ?_)
  obtain ⟨hq_8a, hL2⟩ := hq_8
  rw [hq_8a]
  refine lv_istore_n (lv' := [(3, .int (nI 1)), (2, .ref (s.heap.size + 827)), (1, .ref s.heap.size), (0, .ref b)]) hx hb dL_law_31 rfl hl (by decide) rfl (fun ls hl => ?_)
  refine lv_iconst (v := (nI 2)) hx hb dL_law_32 (by decide) ?_
  refine lv_istore (lv' := [(4, .int (nI 2)), (3, .int (nI 1)), (2, .ref (s.heap.size + 827)), (1, .ref s.heap.size), (0, .ref b)]) hx hb dL_law_33 hl (by decide) rfl (fun ls hl => ?_)
  refine xl_upC 48 (fun i => 1654 + i) (fun i => 17642 + 4 * i) (fun i H locs ls => ∃ z, va_S (fun q => s.heap.size ≤ q) s.heap H locs ∧ xw_D G g (zw_t s.heap.size) z H ∧ zL s.heap.size (s.heap.size + 827) (i + 1) z ∧ lv_has ls 5 [(4, .int (nI (i + 2))), (3, .int (nI 1)), (2, .ref (s.heap.size + 827)), (1, .ref s.heap.size), (0, .ref b)]) (fun H locs ls hI => ?_) (fun i H locs ls hi hI ih => ?_) ⟨_, hS, hW, hL2, lv_sub hl [0, 1, 2, 3, 4] rfl⟩ rfl rfl
  · obtain ⟨z9, hS, hW, hL, hl⟩ := hI
    refine lv_iload hx hb dL_law_35 (lv_at hl 0 rfl) ?_
    refine lv_bipush (v := (nI 50)) hx hb dL_law_37 (by decide) ?_
    refine lv_icmp_ge (tgt := 96) hx hb dL_law_39 (by decide) (fun c9 => ?_) (fun c9 => ?_)
    · exact lx_end l (by omega) (by omega) C1 hS hW hL (lv_sub hl [1, 2, 3, 4] rfl)
    · exact absurd (nI_le (Nat.le_refl _) (by omega)) c9
  · obtain ⟨z9, hS, hW, hL, hl⟩ := hI
    exact lx_35 l hi C1 hS hW hL hl (fun H locs ls z hS hW hL hl => ih H locs ls ⟨z, hS, hW, hL, hl⟩)
