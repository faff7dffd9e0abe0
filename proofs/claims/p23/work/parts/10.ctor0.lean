/-! CONSTRUCTORS: they make cells one behind the other; facts of single cells, and the heap's size -/
def xA_k (h sz : Nat) : Nat → Prop := fun q => q = h ∨ sz ≤ q
def xK_t (G : va_G) (g : Nat → ClassId) (t0 : Nat → Nat) (A : Nat → Prop) (U : State) : Prop := va_K G vwCl (xw_tys g) U ∧ xw_st t0 A U U.heap ∧ xw_nw g U
def xK_p (G : va_G) (g : Nat → ClassId) (t0 : Nat → Nat) (A : Nat → Prop) (sz h ci : Nat) (fs : List Value) (U : State) : Prop := U.heap.size = sz ∧ va_at G vwCl (h, .inr (ci, fs)) U.heap ∧ xK_t G g t0 A U
theorem xK_blind {G : va_G} {g : Nat → ClassId} {t0 : Nat → Nat} {A : Nat → Prop} {sz h ci : Nat} {fs : List Value} (av : List Value) : FrameBlind (va_Pc av (xK_p G g t0 A sz h ci fs)) := fun a U f mk q => ⟨q.1, q.2.1, q.2.2.1, va_K.moved (u := U) (U := U.calling f mk a) (Vm.Alike.refl U.vm) q.2.2.2.1, q.2.2.2.2.1.moved (u := U) (U := U.calling f mk a) (Vm.Alike.refl U.vm), q.2.2.2.2.2.call⟩
theorem xK_mk {G : va_G} {g : Nat → ClassId} {t0 : Nat → Nat} {A A' : Nat → Prop} {s U : State} {H : Heap} {locs : List Loc} (hK : va_K G vwCl (xw_tys g) s) (hst : xw_st t0 A s s.heap) (hnw : xw_nw g s) (hS : va_S A' s.heap H locs) (hAA : ∀ q, A' q → A q) (hU : U.heap = H) (hWm : s.WarmedH U.vm) : xK_t G g t0 A U :=
  ⟨va_K.moved hWm.alike hK, (hst.moved hWm.alike).kept (fun a h1 h2 => by rw [hU]; exact hS.2.1 a h1 (fun z => h2 (hAA a z))), hnw.warm hWm⟩
theorem xw_arrq {cA : ClassId} {n : Nat} {f f' : Nat → Option Nat} (h : ∀ j, j < n → f j = f' j) : vp_cell cA (n, .inr (.inr (.inr (.inr f)))) = vp_cell cA (n, .inr (.inr (.inr (.inr f')))) := by
  rw [vp_cell_q, vp_cell_q]
  unfold arrV
  congr 1
  congr 1
  funext j
  exact congrArg va_rf (h j.val j.isLt)
def xk_L (G : va_G) (g : Nat → ClassId) (x : Nat) (H : Heap) : Prop := va_at G vwCl (x, .inr (1, [.ref (x + 1), .int (nI 0)])) H ∧ va_at G vwCl (x + 1, .inl (g 0, 24, .inl (fun _ => nI 0))) H
def xk_W (G : va_G) (g : Nat → ClassId) (x : Nat) (v : Int32) (H : Heap) : Prop := va_at G vwCl (x, .inr (5, [.int (nI 1), .int (nI 1), .int v, .int (nI 0), .int (nI 0), .ref (x + 1), .ref (x + 3)])) H ∧ xk_L G g (x + 1) H ∧ xk_L G g (x + 3) H
def xk_P (G : va_G) (g : Nat → ClassId) (x : Nat) (v : Int32) (H : Heap) : Prop := va_at G vwCl (x, .inr (4, [.int v, .ref (x + 1), .int (nI 0), .int (nI 4), .int (nI 0), .int (nI 0), .int (nI 0), .int (nI 0), .int (nI 0), .int (nI 0), .int (-6), .int (nI 0)])) H ∧ va_at G vwCl (x + 1, .inl (g 0, 8, .inl (fun _ => nI 0))) H
def xk_D (G : va_G) (g : Nat → ClassId) (x : Nat) (H : Heap) : Prop := va_at G vwCl (x, .inr (3, [.ref (x + 1), .int (nI 0)])) H ∧ va_at G vwCl (x + 1, .inl (g 2, 60, .inl (fun _ => nI 0))) H
def xk_M (G : va_G) (g : Nat → ClassId) (x : Nat) (H : Heap) : Prop := va_at G vwCl (x, .inr (2, [.ref (x + 1), .ref (x + 2), .ref (x + 3), .int (nI 0), .int (nI 0), .int (nI 0), .int (nI 0)])) H ∧ va_at G vwCl (x + 1, .inl (g 0, 3, .inl xs_0)) H ∧
  va_at G vwCl (x + 2, .inl (g 3, 6, .inr (.inr (.inr (.inr (fun w => some (x + 2 + 5 * w + 2))))))) H ∧ va_at G vwCl (x + 3, .inl (g 4, 24, .inr (.inr (.inr (.inr (fun k => some (x + 3 + 2 * k + 31))))))) H ∧
  (∀ w, w < 6 → xk_W G g (x + 5 * w + 4) (nI 8) H) ∧ ∀ k, k < 24 → xk_P G g (x + 2 * k + 34) (nI k) H
def xk_H (G : va_G) (g : Nat → ClassId) (x : Nat) (H : Heap) : Prop := va_at G vwCl (x, .inr (0, [.ref (x + 1), .int (nI 0), .int (nI 0)])) H ∧ va_at G vwCl (x + 1, .inl (g 5, 6, .inr (.inr (.inr (.inr (fun i => some (x + 1 + 82 * i + 1))))))) H ∧ ∀ i, i < 6 → xk_M G g (x + 82 * i + 2) H
/-- the whole object -/
def xk_B (G : va_G) (g : Nat → ClassId) (x : Nat) (H : Heap) : Prop := va_at G vwCl (x, .inr (6, [.ref (x + 1), .ref (x + 83), .ref (x + 165), .ref (x + 659), .ref (x + 824), .ref (x + 825)])) H ∧ xk_M G g (x + 1) H ∧ xk_M G g (x + 83) H ∧ xk_H G g (x + 165) H ∧
  va_at G vwCl (x + 659, .inl (g 5, 2, .inr (.inr (.inr (.inr (fun i => some (x + 659 + 82 * i + 1))))))) H ∧ (∀ i, i < 2 → xk_M G g (x + 82 * i + 660) H) ∧ va_at G vwCl (x + 824, .inl (g 1, 2, .inl (fun _ => nI 0))) H ∧ xk_D G g (x + 825) H
theorem xk_L.kept {G : va_G} {g : Nat → ClassId} {x : Nat} {H H1 : Heap} (h : xk_L G g x H) (ho : ∀ q, x ≤ q ∧ q < x + 2 → H1[q]? = H[q]?) : xk_L G g x H1 := ⟨h.1.kept (ho _ (by omega)), h.2.kept (ho _ (by omega))⟩
theorem xk_D.kept {G : va_G} {g : Nat → ClassId} {x : Nat} {H H1 : Heap} (h : xk_D G g x H) (ho : ∀ q, x ≤ q ∧ q < x + 2 → H1[q]? = H[q]?) : xk_D G g x H1 := ⟨h.1.kept (ho _ (by omega)), h.2.kept (ho _ (by omega))⟩
theorem xk_P.kept {G : va_G} {g : Nat → ClassId} {x : Nat} {v : Int32} {H H1 : Heap} (h : xk_P G g x v H) (ho : ∀ q, x ≤ q ∧ q < x + 2 → H1[q]? = H[q]?) : xk_P G g x v H1 := ⟨h.1.kept (ho _ (by omega)), h.2.kept (ho _ (by omega))⟩
theorem xk_W.kept {G : va_G} {g : Nat → ClassId} {x : Nat} {v : Int32} {H H1 : Heap} (h : xk_W G g x v H) (ho : ∀ q, x ≤ q ∧ q < x + 5 → H1[q]? = H[q]?) : xk_W G g x v H1 := ⟨h.1.kept (ho _ (by omega)), h.2.1.kept (fun q hq => ho q (by omega)), h.2.2.kept (fun q hq => ho q (by omega))⟩
theorem xk_M.kept {G : va_G} {g : Nat → ClassId} {x : Nat} {H H1 : Heap} (h : xk_M G g x H) (ho : ∀ q, x ≤ q ∧ q < x + 82 → H1[q]? = H[q]?) : xk_M G g x H1 := ⟨h.1.kept (ho _ (by omega)), h.2.1.kept (ho _ (by omega)), h.2.2.1.kept (ho _ (by omega)), h.2.2.2.1.kept (ho _ (by omega)), fun w hw => (h.2.2.2.2.1 w hw).kept (fun q hq => ho q (by omega)), fun k hk => (h.2.2.2.2.2 k hk).kept (fun q hq => ho q (by omega))⟩
theorem xk_H.kept {G : va_G} {g : Nat → ClassId} {x : Nat} {H H1 : Heap} (h : xk_H G g x H) (ho : ∀ q, x ≤ q ∧ q < x + 494 → H1[q]? = H[q]?) : xk_H G g x H1 := ⟨h.1.kept (ho _ (by omega)), h.2.1.kept (ho _ (by omega)), fun i hi => (h.2.2 i hi).kept (fun q hq => ho q (by omega))⟩
theorem xk_B.kept {G : va_G} {g : Nat → ClassId} {x : Nat} {H H1 : Heap} (h : xk_B G g x H) (ho : ∀ q, x ≤ q ∧ q < x + 827 → H1[q]? = H[q]?) : xk_B G g x H1 := ⟨h.1.kept (ho _ (by omega)), h.2.1.kept (fun q hq => ho q (by omega)), h.2.2.1.kept (fun q hq => ho q (by omega)), h.2.2.2.1.kept (fun q hq => ho q (by omega)), h.2.2.2.2.1.kept (ho _ (by omega)), fun i hi => (h.2.2.2.2.2.1 i hi).kept (fun q hq => ho q (by omega)), h.2.2.2.2.2.2.1.kept (ho _ (by omega)), h.2.2.2.2.2.2.2.kept (fun q hq => ho q (by omega))⟩
theorem xk_end {P : Heap → Prop} {t : State} {H : Heap} {n : Nat} (ht : t.heap = H) (hz : H.size = n) (hp : P H) : t.heap.size = n ∧ P t.heap := by rw [ht]; exact ⟨hz, hp⟩
section XK
variable {p : Program} {l : Launch} {e : Env} {R : Room} {s : State} {m : MethodId} {args : Array Value} {below : List Frame} {meth : Method} {c : Code} {H : Heap} {locs : List Loc} {cells slots : Nat} {Q : State → Prop}
variable {cc : ByteArray} {pc : Nat} {ls : Array Slot} {rest : List Value} {G : va_G} {g : Nat → ClassId} {t0 : Nat → Nat} {A A' : Nat → Prop} {a : Nat} {H0 : Heap}
theorem xk_get (hexec : p.tables.exec = Jvm.exec) (hb : c.code = cc) {own ref C : String} {T : u_T} {N ci index : Nat} {Ts : List Cond} (hts : ∀ w ∈ Ts, w.before args s = true) (hin : ∀ w ∈ u_ws C T N, w ∈ Ts) (hown : s.vm.findClass own = some m.cls) (hK : va_K G vwCl (xw_tys g) s) {fs : List Value} (hat : va_at G vwCl (a, .inr (ci, fs)) H) (hc : vwCl[ci]? = some (C, T, N)) (k : Nat) (hk : k < N) (hlink : (Cond.fieldLink own index ref (T k).2.1 (T k).2.2.1).before args s = true) (hsame : ∀ x, s.fieldFound? (T k).1 (T k).2.1 (T k).2.2.1 = some x → s.fieldFound? ref (T k).2.1 (T k).2.2.1 = some x) {v : Value} (hv : fs[k]? = some v) (hdg : decode cc pc = .ok (.getfield index, 3))
    (kk : W p l e R s m args below meth c H locs cells slots Q (F0 m (pc + 3) ls (v :: rest))) : W p l e R s m args below meth c H locs cells slots Q (F0 m pc ls (.ref a :: rest)) :=
  va_get hexec hb hts hin hown hK (xw_P1 hat) 0 rfl hc k hk hlink hsame hv hdg kk
theorem xk_new (hexec : p.tables.exec = Jvm.exec) (hb : c.code = cc) {own C : String} {T : u_T} {N ci index h : Nat} {Ts : List Cond} (hts : ∀ w ∈ Ts, w.before args s = true) (hin : ∀ w ∈ u_ws C T N, w ∈ Ts) (ty : Nat → FieldType) (hty : ∀ k, k < N → parseFieldDescriptor (T k).2.2.1 = some (ty k)) (hown : s.vm.findClass own = some m.cls) (hcl : (Cond.classLink own index C).before args s = true) (hinst : (Cond.instantiable C N).before args s = true) (hini : (Cond.initialized C).before args s = true)
    (hK : va_K G vwCl (xw_tys g) s) (hS : va_S A' H0 H locs) (hz : H.size = h) (hc : vwCl[ci]? = some (C, T, N)) {fs : List Value} (hfs : ∀ j, j < N → defaultValue (ty j) = vp_V fs j) (hcells : cells + 1 ≤ R.cells) (hslots : slots + N ≤ R.slots) (hdg : decode cc pc = .ok (.new index, 3))
    (kk : ∀ H1 : Heap, va_at G vwCl (h, .inr (ci, fs)) H1 → H1.size = h + 1 → (∀ q, q < h → H1[q]? = H[q]?) → va_S A' H0 H1 locs → W p l e R s m args below meth c H1 locs (cells + 1) (slots + N) Q (F0 m (pc + 3) ls (.ref h :: rest))) : W p l e R s m args below meth c H locs cells slots Q (F0 m pc ls rest) := by
  have hKn := hK.1 ci _ hc
  refine W.newcK hexec hb hown hcl hinst hini rfl hdg hcells hslots hKn.2.1 hz fun H1 kC hkC e1 z1 o1 => ?_
  exact kk H1 ⟨_, hc, (u_born ty hts hin hKn hkC e1 hty).to hfs⟩ z1 o1 ⟨Nat.le_trans hS.1 (by omega), fun x h1 h2 => (o1 x (by rw [← hz]; exact Nat.lt_of_lt_of_le h1 hS.1)).trans (hS.2.1 x h1 h2), hS.2.2⟩
theorem xk_newa (hexec : p.tables.exec = Jvm.exec) (hb : c.code = cc) {atype : ArrayType} (harr : (Cond.arrayClass (newarray.typeOf atype)).before args s = true) {cA : ClassId} (hcA : s.vm.findClass ("[" ++ (newarray.typeOf atype).toString) = some cA) (hS : va_S A' H0 H locs) {h N : Nat} (hz : H.size = h) {n : Int32} (hn : n = nI N) (hN : N < 2 ^ 31) (hbytes : N * componentBytes (newarray.typeOf atype) ≤ 536870912) (hcells : cells + 1 ≤ R.cells) (hslots : slots + N ≤ R.slots) (hdg : decode cc pc = .ok (.newarray atype, 2))
    (kk : ∀ H1 : Heap, H1[h]? = some (arrV cA N (fun _ => defaultValue (newarray.typeOf atype))) → H1.size = h + 1 → (∀ q, q < h → H1[q]? = H[q]?) → va_S A' H0 H1 locs → W p l e R s m args below meth c H1 locs (cells + 1) (slots + N) Q (F0 m (pc + 2) ls (.ref h :: rest))) : W p l e R s m args below meth c H locs cells slots Q (F0 m pc ls (.int n :: rest)) := by
  subst hn
  refine va_newaK hexec hb harr rfl hdg rfl (nI_pos hN) (nI_clamp hN) hbytes hcells hslots hz fun H1 cA' e1 z1 o1 _ hNm => ?_
  cases hcA.symm.trans hNm
  exact kk H1 e1 z1 o1 ⟨Nat.le_trans hS.1 (by omega), fun x h1 h2 => (o1 x (by rw [← hz]; exact Nat.lt_of_lt_of_le h1 hS.1)).trans (hS.2.1 x h1 h2), hS.2.2⟩
theorem xk_newq (hexec : p.tables.exec = Jvm.exec) (hb : c.code = cc) {own C : String} {index : Nat} (hown : s.vm.findClass own = some m.cls) (hclink : (Cond.classLink own index C).before args s = true) (hover : va_AO C s) (hK : va_K G vwCl (xw_tys g) s) (t1 : Nat) {cA : ClassId} (ht : (xw_tys g)[t1]? = some (cA, .object C)) (hS : va_S A' H0 H locs) {h N : Nat} (hz : H.size = h) {n : Int32} (hn : n = nI N) (hN : N < 2 ^ 31) (hbytes : N * 4 ≤ 536870912) (hcells : cells + 1 ≤ R.cells) (hslots : slots + N ≤ R.slots) (hdg : decode cc pc = .ok (.anewarray index, 3))
    (kk : ∀ H1 : Heap, va_at G vwCl (h, .inl (cA, N, .inr (.inr (.inr (.inr (fun _ => none)))))) H1 → H1.size = h + 1 → (∀ q, q < h → H1[q]? = H[q]?) → va_S A' H0 H1 locs → W p l e R s m args below meth c H1 locs (cells + 1) (slots + N) Q (F0 m (pc + 3) ls (.ref h :: rest))) : W p l e R s m args below meth c H locs cells slots Q (F0 m pc ls (.int n :: rest)) := by
  subst hn
  subst hz
  have hcl : (nI N).toNatClampNeg = N := nI_clamp hN
  refine W.anew hexec hb hown hclink (va_AO.use hover) rfl hdg rfl (nI_pos hN) (by rw [hcl]; exact hbytes) hcells (by rw [hcl]; exact hslots) fun cA' kA comp f1 f2 f3 f4 => ?_
  obtain ⟨_, _, _, _, _, f5⟩ := (hK.2 t1 _ ht).2
  cases f5.symm.trans f1
  rw [hcl]
  generalize hH1 : H.push ({ cls := cA, slots := Array.replicate N .null, vm := .none } : Cell) = H1
  have z1 : H1.size = H.size + 1 := by rw [← hH1, Array.size_push]
  have e1 : H1[H.size]? = some (arrV cA N (fun _ => .null)) := by rw [← hH1, Array.getElem?_push_size, ← arrV_new]
  have o1 : ∀ q : Nat, q < H.size → H1[q]? = H[q]? := fun q hq => by rw [← hH1, Array.getElem?_push, if_neg (Nat.ne_of_lt hq)]
  exact kk H1 (by show H1[H.size]? = some (vp_cell _ _); rw [vp_cell_q]; exact e1) z1 o1 ⟨Nat.le_trans hS.1 (by omega), fun x h1 h2 => (o1 x (Nat.lt_of_lt_of_le h1 hS.1)).trans (hS.2.1 x h1 h2), hS.2.2⟩
theorem xk_put (hexec : p.tables.exec = Jvm.exec) (hb : c.code = cc) {own ref C : String} {T : u_T} {N ci index : Nat} {Ts : List Cond} (hts : ∀ w ∈ Ts, w.before args s = true) (hin : ∀ w ∈ u_ws C T N, w ∈ Ts) (ty0 : Nat → FieldType) (hty : ∀ k, k < N → parseFieldDescriptor (T k).2.2.1 = some (ty0 k)) (hnm : ∀ a, a < N → ∀ b, b < N → a ≠ b → (T a).2.1 ≠ (T b).2.1) (hown : s.vm.findClass own = some m.cls) (hK : va_K G vwCl (xw_tys g) s) (hS0 : va_S A' H0 H locs) {fs : List Value} (hat : va_at G vwCl (a, .inr (ci, fs)) H) (hA : A' a) (hc : vwCl[ci]? = some (C, T, N)) (k : Nat) (hk : k < N) (hlink : (Cond.fieldLink own index ref (T k).2.1 (T k).2.2.1).before args s = true) (hsame : ∀ x, s.fieldFound? (T k).1 (T k).2.1 (T k).2.2.1 = some x → s.fieldFound? ref (T k).2.1 (T k).2.2.1 = some x) (hfin : (T k).2.2.2 = false) {ty : FieldType} {v : Value} (hd : parseFieldDescriptor (T k).2.2.1 = some ty) (hn : narrow ty v = v) (hfit : fits ty v = true) (hl : k < fs.length)
    (hdg : decode cc pc = .ok (.putfield index, 3)) (kk : ∀ (H1 : Heap) (locs1 : List Loc), va_at G vwCl (a, .inr (ci, fs.set k v)) H1 → H1.size = H.size → (∀ q, q ≠ a → H1[q]? = H[q]?) → va_S A' H0 H1 locs1 → W p l e R s m args below meth c H1 locs1 cells slots Q (F0 m (pc + 3) ls rest)) : W p l e R s m args below meth c H locs cells slots Q (F0 m pc ls (v :: .ref a :: rest)) := by
  have hap := va_apart (own := own) hts hin ty0 hty hnm hK hc
  obtain ⟨r, h1, cell, q1, q2, q3, q4⟩ := hat
  have hr : r = (C, T, N) := Option.some.inj (h1.symm.trans hc)
  subst hr
  obtain ⟨hS, hfc, kC, hkC, hkind⟩ := hK.1 ci _ hc
  obtain ⟨cf, kf, fi, f, hi, hsl⟩ := hS k hk
  have hlay := hts _ (hin _ (u_in_lay hk))
  unfold u_lay at hlay
  rw [if_neg (by rw [hfin]; decide)] at hlay
  have hst := (u_facts hfc hkC (u_lays hts hin hk) hi).1
  have h6 := u_store hfc hkC hkind hlay hi hd hn hfit
  refine W.putK hexec hb (f := f) ⟨hown, hlink, ⟨_, _, _, hsame _ hi⟩, hst⟩ (by rw [q2]; exact h6) q1 q3 (by rw [hsl]; exact k2_hasslot (q4 k hk)) rfl rfl hdg fun H' e1 e2 e3 => ?_
  rw [hsl] at e1 ⊢
  exact kk H' _ ⟨_, hc, t_OB.to (V := updV (vp_V fs) k v) ⟨_, e1, q2, q3, t_set q4 hap hk v⟩ (fun j _ => vp_updV_set hl v j)⟩ e2 e3 (hS0.put e2 e3 hA)
theorem xk_putF (hexec : p.tables.exec = Jvm.exec) (hb : c.code = cc) {own ref C : String} {T : u_T} {N ci index : Nat} {Ts : List Cond} (hts : ∀ w ∈ Ts, w.before args s = true) (hin : ∀ w ∈ u_ws C T N, w ∈ Ts) (ty0 : Nat → FieldType) (hty : ∀ k, k < N → parseFieldDescriptor (T k).2.2.1 = some (ty0 k)) (hnm : ∀ a, a < N → ∀ b, b < N → a ≠ b → (T a).2.1 ≠ (T b).2.1) (hown : s.vm.findClass own = some m.cls) (hK : va_K G vwCl (xw_tys g) s) (hS0 : va_S A' H0 H locs) {fs : List Value} (hat : va_at G vwCl (a, .inr (ci, fs)) H) (hA : A' a) (hc : vwCl[ci]? = some (C, T, N)) (k : Nat) (hk : k < N) (hlink : (Cond.fieldLink own index ref (T k).2.1 (T k).2.2.1).before args s = true) (hsame : ∀ x, s.fieldFound? (T k).1 (T k).2.1 (T k).2.2.1 = some x → s.fieldFound? ref (T k).2.1 (T k).2.2.1 = some x) (hfin : (T k).2.2.2 = true) (hin2 : meth.name = "<init>") (hdecl : (T k).1 = own) {ty : FieldType} {v : Value} (hd : parseFieldDescriptor (T k).2.2.1 = some ty) (hn : narrow ty v = v) (hfit : fits ty v = true) (hl : k < fs.length)
    (hdg : decode cc pc = .ok (.putfield index, 3)) (kk : ∀ (H1 : Heap) (locs1 : List Loc), va_at G vwCl (a, .inr (ci, fs.set k v)) H1 → H1.size = H.size → (∀ q, q ≠ a → H1[q]? = H[q]?) → va_S A' H0 H1 locs1 → W p l e R s m args below meth c H1 locs1 cells slots Q (F0 m (pc + 3) ls rest)) : W p l e R s m args below meth c H locs cells slots Q (F0 m pc ls (v :: .ref a :: rest)) := by
  have hap := va_apart (own := own) hts hin ty0 hty hnm hK hc
  obtain ⟨r, h1, cell, q1, q2, q3, q4⟩ := hat
  have hr : r = (C, T, N) := Option.some.inj (h1.symm.trans hc)
  subst hr
  obtain ⟨hS, hfc, kC, hkC, hkind⟩ := hK.1 ci _ hc
  obtain ⟨cf, kf, fi, f, hi, hsl⟩ := hS k hk
  have hlay := hts _ (hin _ (u_in_lay hk))
  unfold u_lay at hlay
  rw [if_pos hfin] at hlay
  have hst := (u_facts hfc hkC (u_lays hts hin hk) hi).1
  have hcf : m.cls = cf := by
    obtain ⟨_, _, c', _, _, _, -, -, hf', -, -, -, hown2, -⟩ := Cond.laysFinal_spec hlay
    have e1 : c' = cf := by have := hi.symm.trans hf'; simp at this; exact this.1.symm
    rw [hdecl] at hown2
    rw [← e1]; exact Option.some.inj (hown.symm.trans hown2)
  have h6 := u_fits hfc hkC hkind (Or.inr hlay) hi hd hn hfit
  refine W.putFinK hexec hb hown hlink (hsame _ hi) hst hcf hin2 (by rw [q2]; exact h6) q1 q3 (by rw [hsl]; exact k2_hasslot (q4 k hk)) rfl rfl hdg fun H' e1 e2 e3 => ?_
  rw [hsl] at e1 ⊢
  exact kk H' _ ⟨_, hc, t_OB.to (V := updV (vp_V fs) k v) ⟨_, e1, q2, q3, t_set q4 hap hk v⟩ (fun j _ => vp_updV_set hl v j)⟩ e2 e3 (hS0.put e2 e3 hA)
theorem xk_astq (hexec : p.tables.exec = Jvm.exec) (hb : c.code = cc) (hK : va_K G vwCl (xw_tys g) s) (hS : va_S A' H0 H locs) {cA : ClassId} {r : vw_C} {n v ci : Nat} {vs : List Value} {f : Nat → Option Nat} (hat : va_at G vwCl (a, .inl (cA, n, .inr (.inr (.inr (.inr f))))) H) (hA : A' a) (t1 : Nat) (ht : (xw_tys g)[t1]? = some (cA, .object r.1)) (hv : va_at G vwCl (v, .inr (ci, vs)) H) (hc : vwCl[ci]? = some r) {i : Int32} (k : Nat) (hi : i = nI k) (hk : k < n) (hn : n < 2 ^ 31) (hdg : decode cc pc = .ok (.aastore, 1))
    (kk : ∀ (H1 : Heap) (locs1 : List Loc), va_at G vwCl (a, .inl (cA, n, .inr (.inr (.inr (.inr (va_up f k (some v))))))) H1 → H1.size = H.size → (∀ q, q ≠ a → H1[q]? = H[q]?) → va_S A' H0 H1 locs1 → W p l e R s m args below meth c H1 locs1 cells slots Q (F0 m (pc + 1) ls rest)) : W p l e R s m args below meth c H locs cells slots Q (F0 m pc ls (.ref v :: .int i :: .ref a :: rest)) := by
  subst hi
  have hcl : (nI k).toNatClampNeg = k := nI_clamp (by omega)
  obtain ⟨r', hr', cellV, g1, g2, g3, -⟩ := hv
  have hcls := (hK.1 ci r hc).2
  obtain ⟨kA, comp, k1, k2, k3, -⟩ := (hK.2 t1 _ ht).2
  have hcomp : comp = G.1 ci := Option.some.inj (k3.symm.trans hcls.1)
  subst hcomp
  obtain ⟨kC, hkC, -⟩ := hcls.2
  refine W.aast hexec hb hat (fun q h => by cases h) (fun h => by cases h) k1 k2 rfl hkC ⟨nI_pos (by omega), by show _ < (arrV _ _ _).slots.size; rw [arrV_size, hcl]; exact hk⟩ g1 (fun q h => by rw [g3] at h; cases h) (by rw [g2]; exact hkC) (by rw [g2]; exact va_assign hcls) rfl rfl hdg fun H1 e z oq => ?_
  refine kk H1 _ ?_ z oq (hS.put z oq hA)
  show H1[a]? = some (vp_cell _ _)
  rw [e, hcl]
  rw [vp_cell_q, vp_cell_q, arrV_store]
  congr 2
  funext q
  by_cases hq : q = k
  · subst hq
    simp [updV, va_up, va_rf]
  · simp [updV, va_up, hq]
theorem xk_clone (hexec : p.tables.exec = Jvm.exec) (hb : c.code = cc) (hml : c.maxLocals = ls.size) {own : String} {index : Nat} (hown : s.vm.findClass own = some m.cls)
    (hlink : (Cond.methodLink own index ⟨"[I", "clone", "()Ljava/lang/Object;"⟩).before args s = true) (hsame : (Cond.sameMethod "[I" "java/lang/Object" "clone" "()Ljava/lang/Object;").before args s = true)
    (hnat : (Cond.native ⟨"java/lang/Object", "clone", "()Ljava/lang/Object;"⟩).before args s = true) (hinst : (Cond.instanceMethod ⟨"java/lang/Object", "clone", "()Ljava/lang/Object;"⟩).before args s = true)
    (hsel : (Cond.selects "[I" ⟨"[I", "clone", "()Ljava/lang/Object;"⟩ ⟨"java/lang/Object", "clone", "()Ljava/lang/Object;"⟩).before args s = true) (hcl : va_Nw (.castable "[I" "java/lang/Cloneable") s)
    (hK : va_K G vwCl (xw_tys g) s) (hnw : xw_nw g s) {t h : Nat} (hC : xs_C t A' s s.heap) (hS : va_S A' s.heap H locs) (hz : H.size = h)
    (hframes : 1 ≤ R.frames) (hlocals : (rest.map fun v => v.category).sum + 14 ≤ R.locals) (hcells : cells + 1 ≤ R.cells) (hslots : slots + 3 ≤ R.slots) (hdg : decode cc pc = .ok (.invokevirtual index, 3))
    (kk : ∀ H1 : Heap, va_at G vwCl (h, .inl (g 0, 3, .inl xs_0)) H1 → H1.size = h + 1 → (∀ q, q < h → H1[q]? = H[q]?) → va_S A' s.heap H1 locs → W p l e R s m args below meth c H1 locs (cells + 1) (slots + 3) Q (F0 m (pc + 3) ls (.ref h :: rest))) : W p l e R s m args below meth c H locs cells slots Q (F0 m pc ls (.ref t :: rest)) := by
  obtain ⟨cell, h1, h2, h3, h4, h5, h6, h7⟩ := hC
  have hg0 : g 0 = cell.cls := Option.some.inj (hnw.2.2.2.2.2.2.2.symm.trans h5)
  obtain ⟨c0, t0', f1, f2, f3⟩ := Cond.castable_spec (va_Nw.use (A := args) rfl hcl)
  cases h5.symm.trans f1
  have hcell : H[t]? = some cell := by rw [hS.2.1 t (Array.getElem?_eq_some_iff.mp h1).1 h7]; exact h1
  intro T hT X
  obtain ⟨-, kA, hkA, comp, hkind⟩ := State.isArrayOf_alike X.warmed.alike ((hK.2 0 _ rfl).1 0 (fun _ => .null))
  obtain ⟨-, kS, hkS, compS, hkindS⟩ := (hK.2 0 _ rfl).1 0 (fun _ => .null)
  have hkA' : T.vm.classes[cell.cls]? = some kA := by rw [← hg0]; exact hkA
  have hkS' : s.vm.classes[cell.cls]? = some kS := by rw [← hg0]; exact hkS
  obtain ⟨vm', X', st⟩ := X.cloneArray hexec hown hlink hsame hnat hinst hsel (a := t) (cell := cell) (by rw [hT]; exact hcell) h4 h3 f1 f2 f3
    (fun i v hv => by
      have hi : i < 3 := by rw [← h2]; exact (Array.getElem?_eq_some_iff.mp hv).1
      rw [h6 i hi] at hv
      cases hv
      simp [State.fitsSlot, State.slotType?, hkA', hkind, fits])
    (g := F0 m pc ls (.ref t :: rest)) rfl (by rw [hml]) rfl (by rw [hb]; exact hdg) hframes (by show 2 * 0 + _ + 14 ≤ _; omega) hcells (by rw [h2]; exact hslots) (hloader := Vm.clonesLoader_of_array hkS' hkindS)
  have hcellE : ({ cls := cell.cls, slots := cell.slots } : Cell) = vp_cell (g 0) (3, .inl xs_0) := by
    rw [vp_cell_i]
    unfold arrV
    have hsl : cell.slots = Array.ofFn (n := 3) (fun j => Value.int (xs_0 j.val)) := by
      apply Array.ext
      · rw [h2, Array.size_ofFn]
      · intro i hi1 hi2
        have h8 := h6 i (by rw [← h2]; exact hi1)
        rw [Array.getElem?_eq_getElem hi1] at h8
        rw [Option.some.inj h8, Array.getElem_ofFn]
    rw [hsl, hg0]
  rw [hcellE, h2] at X'
  generalize hH1 : H.push (vp_cell (g 0) (3, .inl xs_0)) = H1
  have z1 : H1.size = H.size + 1 := by rw [← hH1, Array.size_push]
  have e1 : H1[H.size]? = some (vp_cell (g 0) (3, .inl xs_0)) := by rw [← hH1, Array.getElem?_push_size]
  have o1 : ∀ q : Nat, q < H.size → H1[q]? = H[q]? := fun q hq => by rw [← hH1, Array.getElem?_push, if_neg (Nat.ne_of_lt hq)]
  obtain ⟨t', b1, b2⟩ := kk H1 (by rw [← hz]; exact e1) (by rw [z1, hz]) (fun q hq => o1 q (by rw [hz]; exact hq)) ⟨Nat.le_trans hS.1 (by omega), fun y g1 g2 => (o1 y (Nat.lt_of_lt_of_le g1 hS.1)).trans (hS.2.1 y g1 g2), hS.2.2⟩
    ((T.setVm vm').pushCell (vp_cell (g 0) (3, .inl xs_0))) (by rw [← hH1, ← hT]; rfl) X'
  refine ⟨t', st t' ?_, b2⟩
  rw [hcellE, hT, hz]
  exact b1
/-- a constructor's call -/
theorem xk_I {y : MethodName} {bytes : ByteArray} {maxL nL na n mc ms index sz b ci : Nat} {ws : List Cond} {rm : Room} {Ts : List Cond} {own : String} {As st fs : List Value} {P : Heap → Prop}
    (S : CallFix p m c cc nL s args Ts own) (hM : Met l y ws rm (va_Pc (.ref b :: As) (xK_p G g t0 A sz b ci fs)) (va_Qv (fun _ : Unit => True) (fun _ t => t.heap.size = sz + n ∧ P t.heap) (xA_k b sz)) mc ms (xA_k b sz)) (cw : CallB R s args own index y bytes maxL none ws rm mc ms na ∧ y.name = "<init>" ∧ (Cond.instanceMethod y).before args s = true)
    (hK : va_K G vwCl (xw_tys g) s) (hst : xw_st t0 A s s.heap) (hnw : xw_nw g s) (hS : va_S A' s.heap H locs) (hAA : ∀ q, A' q → A q) (hz : H.size = sz) (hat : va_at G vwCl (b, .inr (ci, fs)) H) (hA' : ∀ q, xA_k b sz q → A' q)
    (hn : As.length = na) (hsize : ls.size = nL) (hstack : st = As.reverse ++ .ref b :: rest) (hWd : (rest.map fun v => v.category).sum ≤ 8) (hdg : decode cc pc = .ok (.invokespecial index, 3)) (hf : cells + mc ≤ R.cells ∧ slots + ms ≤ R.slots)
    (kk : ∀ (H1 : Heap) (locs1 : List Loc), P H1 → H1.size = sz + n → (∀ q, q < sz ∧ q ≠ b → H1[q]? = H[q]?) → va_S A' s.heap H1 locs1 → W p l e R s m args below meth c H1 locs1 (cells + mc) (slots + ms) Q (F0 m (pc + 3) ls rest)) : W p l e R s m args below meth c H locs cells slots Q (F0 m pc ls st) :=
  va_callv (va_runI S hM cw ⟨xK_blind _, fun U hU hWm => ⟨rfl, by rw [hU]; exact hz, by rw [hU]; exact hat, xK_mk hK hst hnw hS hAA hU hWm⟩⟩ rfl hn hsize hstack (lv_room hWd) hdg hf) hS (fun q _ h => hA' q h) hA' (fun u t H1 locs1 ht _ _ hB _ hk1 hS1 => kk H1 locs1 (by rw [← ht]; exact hB.2) (by rw [← ht]; exact hB.1) (fun q hq => hk1 q (by rw [hz]; exact hq.1) (fun z => z.elim hq.2 (fun z2 => absurd hq.1 (Nat.not_lt.mpr z2)))) hS1)
theorem xk_IN {y : MethodName} {bytes : ByteArray} {maxL nL na n mc ms index sz b ci : Nat} {ws : List Cond} {rm : Room} {Ts : List Cond} {own host : String} {As st fs : List Value} {P : Heap → Prop}
    (S : CallFix p m c cc nL s args Ts own) (hM : Met l y ws rm (va_Pc (.ref b :: As) (xK_p G g t0 A sz b ci fs)) (va_Qv (fun _ : Unit => True) (fun _ t => t.heap.size = sz + n ∧ P t.heap) (xA_k b sz)) mc ms (xA_k b sz)) (cw : va_CN R s args own index y host bytes maxL none ws rm mc ms na ∧ y.name = "<init>" ∧ (Cond.instanceMethod y).before args s = true)
    (hK : va_K G vwCl (xw_tys g) s) (hst : xw_st t0 A s s.heap) (hnw : xw_nw g s) (hS : va_S A' s.heap H locs) (hAA : ∀ q, A' q → A q) (hz : H.size = sz) (hat : va_at G vwCl (b, .inr (ci, fs)) H) (hA' : ∀ q, xA_k b sz q → A' q)
    (hn : As.length = na) (hsize : ls.size = nL) (hstack : st = As.reverse ++ .ref b :: rest) (hWd : (rest.map fun v => v.category).sum ≤ 8) (hdg : decode cc pc = .ok (.invokespecial index, 3)) (hf : cells + mc ≤ R.cells ∧ slots + ms ≤ R.slots)
    (kk : ∀ (H1 : Heap) (locs1 : List Loc), P H1 → H1.size = sz + n → (∀ q, q < sz ∧ q ≠ b → H1[q]? = H[q]?) → va_S A' s.heap H1 locs1 → W p l e R s m args below meth c H1 locs1 (cells + mc) (slots + ms) Q (F0 m (pc + 3) ls rest)) : W p l e R s m args below meth c H locs cells slots Q (F0 m pc ls st) :=
  va_callv (va_runIN S hM cw ⟨xK_blind _, fun U hU hWm => ⟨rfl, by rw [hU]; exact hz, by rw [hU]; exact hat, xK_mk hK hst hnw hS hAA hU hWm⟩⟩ rfl hn hsize hstack (lv_room hWd) hdg hf) hS (fun q _ h => hA' q h) hA' (fun u t H1 locs1 ht _ _ hB _ hk1 hS1 => kk H1 locs1 (by rw [← ht]; exact hB.2) (by rw [← ht]; exact hB.1) (fun q hq => hk1 q (by rw [hz]; exact hq.1) (fun z => z.elim hq.2 (fun z2 => absurd hq.1 (Nat.not_lt.mpr z2)))) hS1)
/-- a loop that makes cells -/
theorem xl_upC (N : Nat) (cf sf : Nat → Nat) (I : Nat → Heap → List Loc → Array Slot → Prop)
    (hx : ∀ (H : Heap) (locs : List Loc) (ls : Array Slot), I N H locs ls → W p l e R s m args below meth c H locs (cf N) (sf N) Q (F0 m pc ls []))
    (hs : ∀ (k : Nat) (H : Heap) (locs : List Loc) (ls : Array Slot), k < N → I k H locs ls → (∀ (H' : Heap) (locs' : List Loc) (ls' : Array Slot), I (k + 1) H' locs' ls' → W p l e R s m args below meth c H' locs' (cf (k + 1)) (sf (k + 1)) Q (F0 m pc ls' [])) → W p l e R s m args below meth c H locs (cf k) (sf k) Q (F0 m pc ls []))
    {H : Heap} {locs : List Loc} {ls : Array Slot} (h0 : I 0 H locs ls) (hc : cells = cf 0) (hsl : slots = sf 0) : W p l e R s m args below meth c H locs cells slots Q (F0 m pc ls []) := by
  have key : ∀ (n k : Nat), k + n = N → ∀ (H : Heap) (locs : List Loc) (ls : Array Slot), I k H locs ls → W p l e R s m args below meth c H locs (cf k) (sf k) Q (F0 m pc ls []) := by
    intro n
    induction n with
    | zero => intro k hk H locs ls h; rw [Nat.add_zero] at hk; subst hk; exact hx H locs ls h
    | succ n ih => intro k hk H locs ls h; exact hs k H locs ls (by omega) h (fun H' locs' ls' h' => ih (k + 1) (by omega) H' locs' ls' h')
  subst hc
  subst hsl
  exact key N 0 (by omega) H locs ls h0
end XK
