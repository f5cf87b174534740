def zPreM (D : va_G) (t0 : Nat) (tys : List (ClassId × FieldType)) (w : va_W) (sz mi : Nat) (av : List Value) : Array Value → State → Prop :=
  va_Pc av (fun U => (U.heap.size = sz ∧ va_P D zcl w U.heap ∧ va_K D zcl tys U ∧ va_D (fun _ => True) w ∧ zE t0 (va_A w sz) U) ∧ va_Mi "[Ljava/lang/Object;" mi U)
theorem zap {w l : va_W} {i : Nat} {x : Nat × va_E} (h : w[i]? = some x) : (w ++ l)[i]? = some x := by
  rw [List.getElem?_append_left (List.getElem?_eq_some_iff.mp h).1]
  exact h
theorem zapT {w l : List (ClassId × FieldType)} {i : Nat} {x : ClassId × FieldType} (h : w[i]? = some x) : (w ++ l)[i]? = some x := by
  rw [List.getElem?_append_left (List.getElem?_eq_some_iff.mp h).1]
  exact h
theorem zlastT {w : List (ClassId × FieldType)} {x : ClassId × FieldType} : (w ++ [x])[w.length]? = some x := by simp
section
variable {p : Program} {l : Launch} {e : Env} {R : Room} {s : State} {m : MethodId} {args : Array Value} {below : List Frame} {meth : Method} {c : Code} {H : Heap} {locs : List Loc} {cells slots : Nat} {Q : State → Prop} {pc : Nat} {ls : Array Slot} {st0 rest : List Value}
variable {D : va_G} {t0 mi : Nat} {tys : List (ClassId × FieldType)} {w : va_W} {A : Nat → Prop} {y : MethodName} {bytes cc : ByteArray} {maxL nL mc ms n index : Nat} {ret : Option FieldType} {rm : Room} {Qc : Array Value → State → Outcome → State → Prop} {free : Addr → Prop} {own : String} {As : List Value}
theorem zrSM (S : CallFix p m c cc nL s args zB own) (hM : Met l y (Cond.code y bytes maxL ret :: zB) rm (zPreM D t0 tys w H.size mi As) Qc mc ms free)
    (h1 : Cond.methodLink own index y ∈ zB) (h2 : Cond.static y ∈ zB) (h4 : Cond.initialized y.cls ∈ zB) (h5 : Cond.code y bytes maxL ret ∈ zB) (hd : zDs y n) (hrc : rm.cells = mc) (hrs : rm.slots = ms) (hR : rm.frames + 1 ≤ R.frames ∧ 8 + (maxL + 11) + rm.locals ≤ R.locals)
    (hw : zHere D t0 tys w A s H locs) (hmi : va_Mi "[Ljava/lang/Object;" mi s) (hn : As.length = n) (hsize : ls.size = nL) (hst : st0 = As.reverse ++ rest) (hW : (rest.map fun v => v.category).sum ≤ 8) (hdg : decode cc pc = .ok (.invokestatic index, 3)) (hf : cells + mc ≤ R.cells ∧ slots + ms ≤ R.slots) :
    va_Run p l e R s m args below meth c H locs cells slots mc ms (F0 m pc ls st0) rest (Qc As.toArray) free :=
  va_runS (g := F0 m pc ls st0) S hM (va_cwS (bytes := bytes) (maxL := maxL) (ret := ret) n S.2.2.2.2 (zgW (zm3 h1 h2 h4) h5) rfl hrc hrs hd hR)
    ⟨fun a U g mk q => by
      have h9 := zPre_blind (D := D) (t0 := t0) (tys := tys) (w := w) (sz := H.size) (av := As) a U g mk ⟨q.1, q.2.1⟩
      exact ⟨h9.1, h9.2, va_Mi.moved (u := U) (U := U.calling g mk a) (Vm.Alike.refl U.vm) q.2.2⟩, fun U hU hW9 => by
      have h9 := zPre_of (av := As) hw U hU hW9
      exact ⟨h9.1, h9.2, hmi.moved hW9.alike⟩⟩ rfl hn hsize hst (lv_room hW) hdg hf
end
set_option maxHeartbeats 1000000 in
set_option maxRecDepth 100000 in
theorem c_As_copyOf2_ok (l : Launch) (D : va_G) (t0 : Nat) (tys : List (ClassId × FieldType)) (w : va_W) (sz : Nat) (i0 j0 a0 n n1 : Nat) (c0 : ClassId) (f : Nat → Option Nat) (hi : w[i0]? = some (a0, .inl (c0, zRo n f))) (hj : tys[j0]? = some (c0, .object "java/lang/Object")) (hn : n ≤ n1) (hn1 : n1 < 1000) (hel : ∀ i y : Nat, i < n → f i = some y → ∃ (k : Nat) (vs : List Value), w[k]? = some (y, .inr (1, vs))) (mi : Nat) : Met l y_As_copyOf2 w_As_copyOf2 ({ frames := 1, cells := 1, slots := 1000, locals := 60 }) (zPreM D t0 tys w sz mi [.ref a0, .int (nI n1), .ref mi]) (va_Qq (fun r u => r = some u.1) (fun (u : Nat × ClassId) t => zPost D (tys ++ [(u.2, .object "java/lang/Object")]) (va_A (w) sz) (w ++ [(u.1, .inl (u.2, zRo n1 (va_cpy f (fun _ => none) 0 0 n)))]) t) (va_A (w) sz)) 1 1000 (va_A (w) sz) := by
  refine Met.ofW (cc := c_As_copyOf2) (maxL := 4) (ret := (some (.array (.object "java/lang/Object")))) (by decide) rfl ?_
  intro p e s m args below meth c s₁ B hml hv
  obtain ⟨rfl, ⟨hsz, hP, hK, hD0, hE⟩, hMi⟩ := hv
  have hx := B.exec
  have hb := B.bytes
  have hr := B.returns
  have hts := atoms_spec (ws := w_As_copyOf2) B.pre
  have hk : ∀ w ∈ zB, w.before _ s = true := fun w h => hts w (List.mem_cons_of_mem _ h)
  have hown : s.vm.findClass "java/util/Arrays" = some m.cls := findClass_of_methodNamed B.named
  have hlocks := B.notSynchronized
  subst hsz
  have hD := hD0.self (sz := s.heap.size)
  generalize hAe : va_A (w) s.heap.size = A at hD hE ⊢
  have hA : ∀ q : Nat, s.heap.size ≤ q → A q := fun q h => by rw [← hAe]; exact Or.inr h
  have hS : va_S A s.heap s.heap [] := va_S.rf
  have hl := lv_entry ([.ref a0, .int (nI n1), .ref mi]) (n := 4) (Nat.le_of_ble_eq_true rfl)
  rw [lg_entry_eq]
  generalize (lg_sl ([.ref a0, .int (nI n1), .ref mi]) ++ List.replicate (4 - (lg_sl ([.ref a0, .int (nI n1), .ref mi])).length) Slot.unset).toArray = ls at hl ⊢
  have hl : lv_has ls 4 [(0, .ref a0), (1, .int (nI n1)), (2, .ref mi)] := hl
  refine lv_aload_n hx hb d_As_copyOf2_0 rfl (lv_at hl 2 rfl) ?_
  refine va_ldcM hx hb hown (hk _ zk326) hMi d_As_copyOf2_1 ?_
  refine lv_acmp_ne (rx := some mi) (ry := some mi) (tgt := 13) hx hb d_As_copyOf2_3 (by decide) (fun h => absurd rfl h) (fun _ => ?_)
  refine lv_iload_n hx hb d_As_copyOf2_6 rfl (lv_at hl 1 rfl) ?_
  refine va_newq (N' := n1) hx hb hown (hk _ zk328) hE.1.2.1 hK hP hD hS hA (nI_pos (by omega)) (nI_clamp (by omega)) (by omega) (Nat.le_of_ble_eq_true rfl) (by show 0 + n1 ≤ 1000; omega) d_As_copyOf2_7 (fun q cA H hK hP hD hS => ?_)
  refine lv_goto (tgt := 24) hx hb d_As_copyOf2_10 (by decide) ?_
  refine lv_astore_n (lv' := [(3, .ref q), (0, .ref a0), (1, .int (nI n1)), (2, .ref mi)]) hx hb d_As_copyOf2_24 rfl hl (by decide) rfl (fun ls hl => ?_)
  refine lv_aload_n hx hb d_As_copyOf2_25 rfl (lv_at hl 1 rfl) ?_
  refine lv_iconst (v := nI 0) hx hb d_As_copyOf2_26 (by decide) ?_
  refine lv_aload_n hx hb d_As_copyOf2_27 rfl (lv_at hl 0 rfl) ?_
  refine lv_iconst (v := nI 0) hx hb d_As_copyOf2_28 (by decide) ?_
  refine lv_aload_n hx hb d_As_copyOf2_29 rfl (lv_at hl 1 rfl) ?_
  refine va_alen (v := nI n) hx hb hK hP i0 j0 (zap hi) (zapT hj) rfl d_As_copyOf2_30 ?_
  refine lv_iload_n hx hb d_As_copyOf2_31 rfl (lv_at hl 2 rfl) ?_
  refine va_mmin hx hb (hml.trans hl.1.symm) hown (hk _ zk329) (hk _ zk330) (hk _ zk10) (hk _ kc_Mt_min) (Nat.le_of_ble_eq_true rfl) (Nat.le_of_ble_eq_true rfl) (Nat.le_of_ble_eq_true rfl) (by show 0 + n1 ≤ 1000; omega) d_As_copyOf2_32 ?_
  refine zh_t (show (if nI n1 < nI n then nI n1 else nI n) = nI n from if_neg (nI_nlt hn (by omega))) ?_
  refine va_copyq (C := RB) (E0 := "java/lang/Object") (E1 := "java/lang/Object") hx hb (hml.trans hl.1.symm) hown (hk _ zk332) (hk _ zk334) (hk _ zk333) (hk _ zk15) hK hP hD hS i0 w.length j0 tys.length (zap hi) zlast (zapT hj) zlastT (by decide) (by decide) (nI_pos (by omega)) (by rw [nI_clamp (n := n) (by omega)]; show 0 + n ≤ n; omega) (by rw [nI_clamp (n := n) (by omega)]; show 0 + n ≤ n1; omega) (fun i h9 y9 hy => by rw [nI_clamp (n := n) (by omega)] at h9; rw [show (nI 0).toNatClampNeg + i = i from by show 0 + i = i; omega] at hy; obtain ⟨k, vs, hkv⟩ := hel i y9 h9 hy; exact va_recv hK hP (ci := 1) (q := (RB, TB, 4)) rfl (zap hkv)) (fun comp c9 h1 h2 => vb_asgC (hE.1.1 _ zn590) comp c9 h1 h2) (Nat.le_of_ble_eq_true rfl) (by decide +kernel) d_As_copyOf2_35 (fun H locs hP hD hS => ?_)
  rw [zlset, nI_clamp (n := n) (by omega)] at hP hD
  have hP : va_P D zcl (w ++ [(q, .inl (cA, zRo n1 (va_cpy f (fun _ => none) 0 0 n)))]) H := hP
  have hD : va_D A (w ++ [(q, .inl (cA, zRo n1 (va_cpy f (fun _ => none) 0 0 n)))]) := hD
  refine lv_aload_n hx hb d_As_copyOf2_38 rfl (lv_at hl 0 rfl) ?_
  refine W.widen (k := 1) (n := 1000) (by decide) (by omega) ?_
  exact W.aret (v := va_rf (some q)) hx hb hr (Or.inr ⟨_, rfl⟩) (va_rf_or _) (fun t ht hW => ⟨⟨some q, (q, cA), rfl, rfl, by rw [ht]; exact hP, va_K.moved hW.alike hK, hD⟩, hS.F ht⟩) hS.2.2 d_As_copyOf2_39
set_option maxHeartbeats 1000000 in
set_option maxRecDepth 100000 in
theorem c_As_copyOf_ok (l : Launch) (D : va_G) (t0 : Nat) (tys : List (ClassId × FieldType)) (w : va_W) (sz : Nat) (i0 j0 a0 n n1 : Nat) (c0 : ClassId) (f : Nat → Option Nat) (hi : w[i0]? = some (a0, .inl (c0, zRo n f))) (hj : tys[j0]? = some (c0, .object "java/lang/Object")) (hn : n ≤ n1) (hn1 : n1 < 1000) (hel : ∀ i y : Nat, i < n → f i = some y → ∃ (k : Nat) (vs : List Value), w[k]? = some (y, .inr (1, vs))) : Met l y_As_copyOf w_As_copyOf ({ frames := 2, cells := 1, slots := 1000, locals := 90 }) (zPre D t0 (tys) (w) sz [.ref a0, .int (nI n1)]) (va_Qq (fun r u => r = some u.1) (fun (u : Nat × ClassId) t => zPost D (tys ++ [(u.2, .object "java/lang/Object")]) (va_A (w) sz) (w ++ [(u.1, .inl (u.2, zRo n1 (va_cpy f (fun _ => none) 0 0 n)))]) t) (va_A (w) sz)) 1 1000 (va_A (w) sz) := by
  refine Met.ofW (cc := c_As_copyOf) (maxL := 2) (ret := (some (.array (.object "java/lang/Object")))) (by decide) rfl ?_
  intro p e s m args below meth c s₁ B hml hv
  obtain ⟨rfl, hsz, hP, hK, hD0, hE⟩ := hv
  have hx := B.exec
  have hb := B.bytes
  have hr := B.returns
  have hts := atoms_spec (ws := w_As_copyOf) B.pre
  have hk : ∀ w ∈ zB, w.before _ s = true := fun w h => hts w (List.mem_cons_of_mem _ h)
  have hown : s.vm.findClass "java/util/Arrays" = some m.cls := findClass_of_methodNamed B.named
  have hlocks := B.notSynchronized
  subst hsz
  have hD := hD0.self (sz := s.heap.size)
  generalize hAe : va_A (w) s.heap.size = A at hD hE ⊢
  have hA : ∀ q : Nat, s.heap.size ≤ q → A q := fun q h => by rw [← hAe]; exact Or.inr h
  have hS : va_S A s.heap s.heap [] := va_S.rf
  have hl := lv_entry ([.ref a0, .int (nI n1)]) (n := 2) (Nat.le_of_ble_eq_true rfl)
  rw [lg_entry_eq]
  generalize (lg_sl ([.ref a0, .int (nI n1)]) ++ List.replicate (2 - (lg_sl ([.ref a0, .int (nI n1)])).length) Slot.unset).toArray = ls at hl ⊢
  have hl : lv_has ls 2 [(0, .ref a0), (1, .int (nI n1))] := hl
  obtain ⟨mi, hMi⟩ := hE.1.2.2.2.2.1
  refine lv_aload_n hx hb d_As_copyOf_0 rfl (lv_at hl 0 rfl) ?_
  refine lv_iload_n hx hb d_As_copyOf_1 rfl (lv_at hl 1 rfl) ?_
  refine lv_aload_n hx hb d_As_copyOf_2 rfl (lv_at hl 0 rfl) ?_
  refine va_getC hx hb (hml.trans hl.1.symm) hown (hk _ zk312) (va_Nw.use rfl (hE.1.1 _ zn587)) (hk _ zk586) (hk _ zk313) (hk _ zk322) hMi (zarr_recv hP hK hi hj) (Nat.le_of_ble_eq_true rfl) (Nat.le_of_ble_eq_true rfl) d_As_copyOf_3 ?_
  refine zcq (zrSM (n := 3) (As := [.ref a0, .int (nI n1), .ref mi]) (rest := []) ⟨hx, hb, hml, hown, hk⟩ (c_As_copyOf2_ok l D t0 tys w s.heap.size i0 j0 a0 n n1 c0 f hi hj hn hn1 hel mi) zk323 zk324 zk14 kc_As_copyOf2 ⟨by decide, by decide, by decide⟩ rfl rfl ⟨Nat.le_of_ble_eq_true rfl, Nat.le_of_ble_eq_true rfl⟩ ⟨hP, hK, hD, hS, hA, hE⟩ hMi rfl hl.1 rfl (Nat.le_of_ble_eq_true rfl) d_As_copyOf_6 ⟨Nat.le_of_ble_eq_true rfl, Nat.le_of_ble_eq_true rfl⟩) ⟨hP, hK, hD, hS, hA, hE⟩ (fun r u H locs hu hP hK hD hS => ?_)
  exact W.aret hx hb hr (Or.inr ⟨_, rfl⟩) (va_rf_or _) (fun t ht hW => ⟨⟨r, u, rfl, hu, by rw [ht]; exact hP, va_K.moved hW.alike hK, hD⟩, hS.F ht⟩) hS.2.2 d_As_copyOf_9
