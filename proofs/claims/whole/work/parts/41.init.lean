section
variable {p : Program} {l : Launch} {e : Env} {R : Room} {s : State} {m : MethodId} {args : Array Value} {below : List Frame} {meth : Method} {c : Code} {H : Heap} {locs : List Loc} {cells slots : Nat} {Q : State → Prop} {pc : Nat} {ls : Array Slot} {st0 rest : List Value}
variable {D : va_G} {t0 : Nat} {tys : List (ClassId × FieldType)} {w : va_W} {A : Nat → Prop} {y : MethodName} {bytes cc : ByteArray} {maxL nL mc ms n index : Nat} {rm : Room} {Qc : Array Value → State → Outcome → State → Prop} {free : Addr → Prop} {own : String} {b : Nat} {As : List Value}
theorem zrI (S : CallFix p m c cc nL s args zB own) (hM : Met l y (Cond.code y bytes maxL none :: zB) rm (zPre D t0 tys w H.size (.ref b :: As)) Qc mc ms free)
    (h1 : Cond.methodLink own index y ∈ zB) (h2 : Cond.instanceMethod y ∈ zB) (h4 : Cond.initialized y.cls ∈ zB) (h5 : Cond.code y bytes maxL none ∈ zB) (hi : y.name = "<init>") (hd : zDs y n) (hrc : rm.cells = mc) (hrs : rm.slots = ms) (hR : rm.frames + 1 ≤ R.frames ∧ 8 + (maxL + 11) + rm.locals ≤ R.locals)
    (hw : zHere D t0 tys w A s H locs)
    (hn : As.length = n) (hsize : ls.size = nL) (hst : st0 = As.reverse ++ .ref b :: rest) (hW : (rest.map fun v => v.category).sum ≤ 8) (hdg : decode cc pc = .ok (.invokespecial index, 3)) (hf : cells + mc ≤ R.cells ∧ slots + ms ≤ R.slots) :
    va_Run p l e R s m args below meth c H locs cells slots mc ms (F0 m pc ls st0) rest (Qc (Value.ref b :: As).toArray) free :=
  va_runI (g := F0 m pc ls st0) S hM (cwI (bytes := bytes) (maxL := maxL) n S.2.2.2.2 (zgW (L := []) (fun _ h => absurd h List.not_mem_nil) h5) rfl hrc hrs (S.2.2.2.2 _ h4) (S.2.2.2.2 _ h1) (S.2.2.2.2 _ h2) hi hd hR) ⟨zPre_blind, fun U hU hW9 => zPre_of hw U hU hW9⟩ rfl hn hsize hst (lv_room hW) hdg hf
end
set_option maxHeartbeats 1000000 in
set_option maxRecDepth 100000 in
theorem c_Ac_init_ok (l : Launch) (D : va_G) (t0 : Nat) (tys : List (ClassId × FieldType)) (w : va_W) (sz : Nat) (q : Nat) : Met l y_Ac_init w_Ac_init ({ frames := 1, cells := 0, slots := 0, locals := 24 }) (zPre D t0 (tys) (w) sz [.ref q]) (va_Sv (fun _ => True)) 0 0 (fun _ => False) := by
  refine Met.ofW (cc := c_Ac_init) (maxL := 1) (ret := none) (by decide) rfl ?_
  intro p e s m args below meth c s₁ B hml hv
  obtain ⟨rfl, hsz, hP, hK, hD0, hE⟩ := hv
  have hx := B.exec
  have hb := B.bytes
  have hr := B.returns
  have hts := atoms_spec (ws := w_Ac_init) B.pre
  have hk : ∀ w ∈ zB, w.before _ s = true := fun w h => hts w (List.mem_cons_of_mem _ h)
  have hown : s.vm.findClass "java/util/AbstractCollection" = some m.cls := findClass_of_methodNamed B.named
  have hlocks := B.notSynchronized
  subst hsz
  have hD := hD0.self (sz := s.heap.size)
  generalize hAe : va_A (w) s.heap.size = A at hD hE
  have hA : ∀ q : Nat, s.heap.size ≤ q → A q := fun q h => by rw [← hAe]; exact Or.inr h
  have hS : va_S A s.heap s.heap [] := va_S.rf
  have hl := lv_entry ([.ref q]) (n := 1) (Nat.le_of_ble_eq_true rfl)
  rw [lg_entry_eq]
  generalize (lg_sl ([.ref q]) ++ List.replicate (1 - (lg_sl ([.ref q])).length) Slot.unset).toArray = ls at hl ⊢
  have hl : lv_has ls 1 [(0, .ref q)] := hl
  refine lv_aload_n hx hb d_Ac_init_0 rfl (lv_at hl 0 rfl) ?_
  refine W.objInit hx hb hown (hk _ zk40) (hk _ zk25) (hk _ kc_O_init) rfl (by rw [hml]; exact hl.1) rfl d_Ac_init_1 (Nat.le_of_ble_eq_true rfl) (Nat.le_of_ble_eq_true rfl) ?_
  refine W.eq (g2 := F0 m 4 ls []) rfl ?_
  exact W.vret hx hb hr (fun t ht hW => ⟨rfl, trivial, ht⟩) (fun q h => absurd h List.not_mem_nil) d_Ac_init_4
set_option maxHeartbeats 1000000 in
set_option maxRecDepth 100000 in
theorem c_Al_init_ok (l : Launch) (D : va_G) (t0 : Nat) (tys : List (ClassId × FieldType)) (w : va_W) (sz : Nat) (q : Nat) (md : Int32) : Met l y_Al_init w_Al_init ({ frames := 2, cells := 0, slots := 0, locals := 50 }) (zPre D t0 (tys) (w ++ [(q, .inr (3, [.int md, .null, .int (nI 0)]))]) sz [.ref q]) (va_Qv (fun _ => True) (fun (u : Unit) t => zPost D (tys) (va_A (w ++ [(q, .inr (3, [.int md, .null, .int (nI 0)]))]) sz) (w ++ [(q, .inr (3, [.int (nI 0), .null, .int (nI 0)]))]) t) (va_A (w ++ [(q, .inr (3, [.int md, .null, .int (nI 0)]))]) sz)) 0 0 (va_A (w ++ [(q, .inr (3, [.int md, .null, .int (nI 0)]))]) sz) := by
  refine Met.ofW (cc := c_Al_init) (maxL := 1) (ret := none) (by decide) rfl ?_
  intro p e s m args below meth c s₁ B hml hv
  obtain ⟨rfl, hsz, hP, hK, hD0, hE⟩ := hv
  have hx := B.exec
  have hb := B.bytes
  have hr := B.returns
  have hts := atoms_spec (ws := w_Al_init) B.pre
  have hk : ∀ w ∈ zB, w.before _ s = true := fun w h => hts w (List.mem_cons_of_mem _ h)
  have hown : s.vm.findClass "java/util/AbstractList" = some m.cls := findClass_of_methodNamed B.named
  have hlocks := B.notSynchronized
  subst hsz
  have hD := hD0.self (sz := s.heap.size)
  generalize hAe : va_A (w ++ [(q, .inr (3, [.int md, .null, .int (nI 0)]))]) s.heap.size = A at hD hE ⊢
  have hA : ∀ q : Nat, s.heap.size ≤ q → A q := fun q h => by rw [← hAe]; exact Or.inr h
  have hS : va_S A s.heap s.heap [] := va_S.rf
  have hl := lv_entry ([.ref q]) (n := 1) (Nat.le_of_ble_eq_true rfl)
  rw [lg_entry_eq]
  generalize (lg_sl ([.ref q]) ++ List.replicate (1 - (lg_sl ([.ref q])).length) Slot.unset).toArray = ls at hl ⊢
  have hl : lv_has ls 1 [(0, .ref q)] := hl
  refine lv_aload_n hx hb d_Al_init_0 rfl (lv_at hl 0 rfl) ?_
  refine va_csv (zrI (n := 0) (As := []) (rest := []) ⟨hx, hb, hml, hown, hk⟩ (c_Ac_init_ok l D t0 tys (w ++ [(q, .inr (3, [.int md, .null, .int (nI 0)]))]) s.heap.size q) zk37 zk38 zk2 kc_Ac_init rfl ⟨by decide, by decide, by decide⟩ rfl rfl ⟨Nat.le_of_ble_eq_true rfl, Nat.le_of_ble_eq_true rfl⟩ ⟨hP, hK, hD, hS, hA, hE⟩ rfl hl.1 rfl (Nat.le_of_ble_eq_true rfl) d_Al_init_1 ⟨Nat.le_of_ble_eq_true rfl, Nat.le_of_ble_eq_true rfl⟩).run (fun _ => ?_)
  refine lv_aload_n hx hb d_Al_init_4 rfl (lv_at hl 0 rfl) ?_
  refine lv_iconst (v := nI 0) hx hb d_Al_init_5 (by decide) ?_
  refine va_put (D := D) (ci := 3) (v := .int (nI 0)) (ty := .int) (C := RA) (T := TA) (N := 3) hx hb hk inA tyA okA nmA hown hK hP hD hS w.length zlast rfl 0 (by decide) (hk _ zk45) (fun _ h9 => h9) rfl (by decide +kernel) rfl rfl (Nat.le_of_ble_eq_true rfl) d_Al_init_6 (fun H locs hP hD hS => ?_)
  rw [zlset] at hP hD
  have hP : va_P D zcl (w ++ [(q, .inr (3, [.int (nI 0), .null, .int (nI 0)]))]) H := hP
  have hD : va_D A (w ++ [(q, .inr (3, [.int (nI 0), .null, .int (nI 0)]))]) := hD
  exact W.vret hx hb hr (fun t ht hW => ⟨⟨(), rfl, trivial, by rw [ht]; exact hP, va_K.moved hW.alike hK, hD⟩, hS.F ht⟩) hS.2.2 d_Al_init_9
set_option maxHeartbeats 1000000 in
set_option maxRecDepth 100000 in
theorem c_A_init_ok (l : Launch) (D : va_G) (t0 : Nat) (tys : List (ClassId × FieldType)) (w : va_W) (sz : Nat) (q : Nat) (md : Int32) : Met l y_A_init w_A_init ({ frames := 3, cells := 0, slots := 0, locals := 80 }) (zPre D t0 (tys) (w ++ [(q, .inr (3, [.int md, .null, .int (nI 0)]))]) sz [.ref q]) (va_Qv (fun _ => True) (fun (u : Unit) t => zPost D (tys) (va_A (w ++ [(q, .inr (3, [.int md, .null, .int (nI 0)]))]) sz) (w ++ [(q, .inr (3, [.int (nI 0), .ref t0, .int (nI 0)]))]) t) (va_A (w ++ [(q, .inr (3, [.int md, .null, .int (nI 0)]))]) sz)) 0 0 (va_A (w ++ [(q, .inr (3, [.int md, .null, .int (nI 0)]))]) sz) := by
  refine Met.ofW (cc := c_A_init) (maxL := 1) (ret := none) (by decide) rfl ?_
  intro p e s m args below meth c s₁ B hml hv
  obtain ⟨rfl, hsz, hP, hK, hD0, hE⟩ := hv
  have hx := B.exec
  have hb := B.bytes
  have hr := B.returns
  have hts := atoms_spec (ws := w_A_init) B.pre
  have hk : ∀ w ∈ zB, w.before _ s = true := fun w h => hts w (List.mem_cons_of_mem _ h)
  have hown : s.vm.findClass "java/util/ArrayList" = some m.cls := findClass_of_methodNamed B.named
  have hlocks := B.notSynchronized
  subst hsz
  have hD := hD0.self (sz := s.heap.size)
  generalize hAe : va_A (w ++ [(q, .inr (3, [.int md, .null, .int (nI 0)]))]) s.heap.size = A at hD hE ⊢
  have hA : ∀ q : Nat, s.heap.size ≤ q → A q := fun q h => by rw [← hAe]; exact Or.inr h
  have hS : va_S A s.heap s.heap [] := va_S.rf
  have hl := lv_entry ([.ref q]) (n := 1) (Nat.le_of_ble_eq_true rfl)
  rw [lg_entry_eq]
  generalize (lg_sl ([.ref q]) ++ List.replicate (1 - (lg_sl ([.ref q])).length) Slot.unset).toArray = ls at hl ⊢
  have hl : lv_has ls 1 [(0, .ref q)] := hl
  refine lv_aload_n hx hb d_A_init_0 rfl (lv_at hl 0 rfl) ?_
  refine zcv (zrI (n := 0) (As := []) (rest := []) ⟨hx, hb, hml, hown, hk⟩ (c_Al_init_ok l D t0 tys w s.heap.size q md) zk34 zk35 zk3 kc_Al_init rfl ⟨by decide, by decide, by decide⟩ rfl rfl ⟨Nat.le_of_ble_eq_true rfl, Nat.le_of_ble_eq_true rfl⟩ ⟨hP, hK, hD, hS, hA, hE⟩ rfl hl.1 rfl (Nat.le_of_ble_eq_true rfl) d_A_init_1 ⟨Nat.le_of_ble_eq_true rfl, Nat.le_of_ble_eq_true rfl⟩) ⟨hP, hK, hD, hS, hA, hE⟩ (fun u H locs hu hP hK hD hS => ?_)
  have hP : va_P D zcl (w ++ [(q, .inr (3, [.int (nI 0), .null, .int (nI 0)]))]) H := hP
  have hD : va_D A (w ++ [(q, .inr (3, [.int (nI 0), .null, .int (nI 0)]))]) := hD
  have hK : va_K D zcl (tys) s := hK
  refine lv_aload_n hx hb d_A_init_4 rfl (lv_at hl 0 rfl) ?_
  refine va_gets hx hb hE.2.2.2.1 hS hown (hk _ zk41) (fun _ h9 => h9) d_A_init_5 ?_
  refine va_put (D := D) (ci := 3) (v := .ref t0) (ty := (.array (.object "java/lang/Object"))) (C := RA) (T := TA) (N := 3) hx hb hk inA tyA okA nmA hown hK hP hD hS w.length zlast rfl 1 (by decide) (hk _ zk43) (fun _ h9 => h9) rfl (by decide +kernel) rfl rfl (Nat.le_of_ble_eq_true rfl) d_A_init_8 (fun H locs hP hD hS => ?_)
  rw [zlset] at hP hD
  have hP : va_P D zcl (w ++ [(q, .inr (3, [.int (nI 0), .ref t0, .int (nI 0)]))]) H := hP
  have hD : va_D A (w ++ [(q, .inr (3, [.int (nI 0), .ref t0, .int (nI 0)]))]) := hD
  exact W.vret hx hb hr (fun t ht hW => ⟨⟨(), rfl, trivial, by rw [ht]; exact hP, va_K.moved hW.alike hK, hD⟩, hS.F ht⟩) hS.2.2 d_A_init_11
def m0 : MT := (mmk 0 (fun _ => 0) (fun _ => 0) (fun _ => 0) (fun _ => 0) (fun _ => 0) (fun _ => false) (fun _ => 0) 0 0 0 0)
set_option maxHeartbeats 1000000 in
set_option maxRecDepth 100000 in
theorem c_M_init_ok (l : Launch) (D : va_G) (t0 : Nat) (h sz : Nat) : Met l y_M_init w_M_init ({ frames := 1, cells := 7, slots := 9992, locals := 24 }) (zPre D t0 [] ([(h, .inr (2, [.int (nI 0), .null, .null, .null, .null, .null, .null, .null, .int (nI 0), .int (nI 0), .int (nI 0), .int (nI 0)]))]) sz [.ref h]) (va_Qv (fun (u : MG) => n_h u = h) (fun (u : MG) t => zPost D (mT u) (va_A ([(h, .inr (2, [.int (nI 0), .null, .null, .null, .null, .null, .null, .null, .int (nI 0), .int (nI 0), .int (nI 0), .int (nI 0)]))]) sz) (mW u m0) t) (va_A ([(h, .inr (2, [.int (nI 0), .null, .null, .null, .null, .null, .null, .null, .int (nI 0), .int (nI 0), .int (nI 0), .int (nI 0)]))]) sz)) 7 9992 (va_A ([(h, .inr (2, [.int (nI 0), .null, .null, .null, .null, .null, .null, .null, .int (nI 0), .int (nI 0), .int (nI 0), .int (nI 0)]))]) sz) := by
  refine Met.ofW (cc := c_M_init) (maxL := 1) (ret := none) (by decide) rfl ?_
  intro p e s m args below meth c s₁ B hml hv
  obtain ⟨rfl, hsz, hP, hK, hD0, hE⟩ := hv
  have hx := B.exec
  have hb := B.bytes
  have hr := B.returns
  have hts := atoms_spec (ws := w_M_init) B.pre
  have hk : ∀ w ∈ zB, w.before _ s = true := fun w h => hts w (List.mem_cons_of_mem _ h)
  have hown : s.vm.findClass "ZoneHeapModel" = some m.cls := findClass_of_methodNamed B.named
  have hlocks := B.notSynchronized
  subst hsz
  have hD := hD0.self (sz := s.heap.size)
  generalize hAe : va_A ([(h, .inr (2, [.int (nI 0), .null, .null, .null, .null, .null, .null, .null, .int (nI 0), .int (nI 0), .int (nI 0), .int (nI 0)]))]) s.heap.size = A at hD hE ⊢
  have hA : ∀ q : Nat, s.heap.size ≤ q → A q := fun q h => by rw [← hAe]; exact Or.inr h
  have hS : va_S A s.heap s.heap [] := va_S.rf
  have hl := lv_entry ([.ref h]) (n := 1) (Nat.le_of_ble_eq_true rfl)
  rw [lg_entry_eq]
  generalize (lg_sl ([.ref h]) ++ List.replicate (1 - (lg_sl ([.ref h])).length) Slot.unset).toArray = ls at hl ⊢
  have hl : lv_has ls 1 [(0, .ref h)] := hl
  have hin : meth.name = "<init>" := (name_of_methodNamed B.named B.method).1
  refine lv_aload_n hx hb d_M_init_0 rfl (lv_at hl 0 rfl) ?_
  refine W.objInit hx hb hown (hk _ zk452) (hk _ zk25) (hk _ kc_O_init) rfl (by rw [hml]; exact hl.1) rfl d_M_init_1 (Nat.le_of_ble_eq_true rfl) (Nat.le_of_ble_eq_true rfl) ?_
  refine W.eq (g2 := F0 m 4 ls []) rfl ?_
  refine lv_aload_n hx hb d_M_init_4 rfl (lv_at hl 0 rfl) ?_
  refine lv_sipush (v := nI 8192) hx hb d_M_init_5 (by decide) ?_
  refine va_newa (atype := .int) (ty := .int) (N' := 8192) (a0 := (8192, .inl (fun _ => nI 0))) hx hb (hk _ zk90) rfl hK hP hD hS hA (fun _ => rfl) (by decide) (by decide) (by decide) (Nat.le_of_ble_eq_true rfl) (Nat.le_of_ble_eq_true rfl) d_M_init_8 (fun q1 d1 H hK hP hD hS => ?_)
  have hP : va_P D zcl ([(h, .inr (2, [.int (nI 0), .null, .null, .null, .null, .null, .null, .null, .int (nI 0), .int (nI 0), .int (nI 0), .int (nI 0)])), (q1, .inl (d1, 8192, .inl (fun _ => nI 0)))]) H := hP
  have hD : va_D A ([(h, .inr (2, [.int (nI 0), .null, .null, .null, .null, .null, .null, .null, .int (nI 0), .int (nI 0), .int (nI 0), .int (nI 0)])), (q1, .inl (d1, 8192, .inl (fun _ => nI 0)))]) := hD
  have hK : va_K D zcl ([(d1, .int)]) s := hK
  refine va_putF (D := D) (ci := 2) (v := .ref q1) (ty := .array .int) (C := RM) (T := TM) (N := 12) hx hb hk inM tyM okM nmM hown hK hP hD hS 0 rfl rfl 1 (by decide) (hk _ zk454) (fun _ h9 => h9) rfl hin rfl (by decide +kernel) rfl rfl (Nat.le_of_ble_eq_true rfl) d_M_init_10 (fun H locs hP hD hS => ?_)
  have hP : va_P D zcl ([(h, .inr (2, [.int (nI 0), .ref q1, .null, .null, .null, .null, .null, .null, .int (nI 0), .int (nI 0), .int (nI 0), .int (nI 0)])), (q1, .inl (d1, 8192, .inl (fun _ => nI 0)))]) H := hP
  have hD : va_D A ([(h, .inr (2, [.int (nI 0), .ref q1, .null, .null, .null, .null, .null, .null, .int (nI 0), .int (nI 0), .int (nI 0), .int (nI 0)])), (q1, .inl (d1, 8192, .inl (fun _ => nI 0)))]) := hD
  refine lv_aload_n hx hb d_M_init_13 rfl (lv_at hl 0 rfl) ?_
  refine lv_sipush (v := nI 300) hx hb d_M_init_14 (by decide) ?_
  refine va_newa (atype := .int) (ty := .int) (N' := 300) (a0 := (300, .inl (fun _ => nI 0))) hx hb (hk _ zk90) rfl hK hP hD hS hA (fun _ => rfl) (by decide) (by decide) (by decide) (Nat.le_of_ble_eq_true rfl) (Nat.le_of_ble_eq_true rfl) d_M_init_17 (fun q2 d2 H hK hP hD hS => ?_)
  have hP : va_P D zcl ([(h, .inr (2, [.int (nI 0), .ref q1, .null, .null, .null, .null, .null, .null, .int (nI 0), .int (nI 0), .int (nI 0), .int (nI 0)])), (q1, .inl (d1, 8192, .inl (fun _ => nI 0))), (q2, .inl (d2, 300, .inl (fun _ => nI 0)))]) H := hP
  have hD : va_D A ([(h, .inr (2, [.int (nI 0), .ref q1, .null, .null, .null, .null, .null, .null, .int (nI 0), .int (nI 0), .int (nI 0), .int (nI 0)])), (q1, .inl (d1, 8192, .inl (fun _ => nI 0))), (q2, .inl (d2, 300, .inl (fun _ => nI 0)))]) := hD
  have hK : va_K D zcl ([(d1, .int), (d2, .int)]) s := hK
  refine va_putF (D := D) (ci := 2) (v := .ref q2) (ty := .array .int) (C := RM) (T := TM) (N := 12) hx hb hk inM tyM okM nmM hown hK hP hD hS 0 rfl rfl 2 (by decide) (hk _ zk455) (fun _ h9 => h9) rfl hin rfl (by decide +kernel) rfl rfl (Nat.le_of_ble_eq_true rfl) d_M_init_19 (fun H locs hP hD hS => ?_)
  have hP : va_P D zcl ([(h, .inr (2, [.int (nI 0), .ref q1, .ref q2, .null, .null, .null, .null, .null, .int (nI 0), .int (nI 0), .int (nI 0), .int (nI 0)])), (q1, .inl (d1, 8192, .inl (fun _ => nI 0))), (q2, .inl (d2, 300, .inl (fun _ => nI 0)))]) H := hP
  have hD : va_D A ([(h, .inr (2, [.int (nI 0), .ref q1, .ref q2, .null, .null, .null, .null, .null, .int (nI 0), .int (nI 0), .int (nI 0), .int (nI 0)])), (q1, .inl (d1, 8192, .inl (fun _ => nI 0))), (q2, .inl (d2, 300, .inl (fun _ => nI 0)))]) := hD
  refine lv_aload_n hx hb d_M_init_22 rfl (lv_at hl 0 rfl) ?_
  refine lv_sipush (v := nI 300) hx hb d_M_init_23 (by decide) ?_
  refine va_newa (atype := .int) (ty := .int) (N' := 300) (a0 := (300, .inl (fun _ => nI 0))) hx hb (hk _ zk90) rfl hK hP hD hS hA (fun _ => rfl) (by decide) (by decide) (by decide) (Nat.le_of_ble_eq_true rfl) (Nat.le_of_ble_eq_true rfl) d_M_init_26 (fun q3 d3 H hK hP hD hS => ?_)
  have hP : va_P D zcl ([(h, .inr (2, [.int (nI 0), .ref q1, .ref q2, .null, .null, .null, .null, .null, .int (nI 0), .int (nI 0), .int (nI 0), .int (nI 0)])), (q1, .inl (d1, 8192, .inl (fun _ => nI 0))), (q2, .inl (d2, 300, .inl (fun _ => nI 0))), (q3, .inl (d3, 300, .inl (fun _ => nI 0)))]) H := hP
  have hD : va_D A ([(h, .inr (2, [.int (nI 0), .ref q1, .ref q2, .null, .null, .null, .null, .null, .int (nI 0), .int (nI 0), .int (nI 0), .int (nI 0)])), (q1, .inl (d1, 8192, .inl (fun _ => nI 0))), (q2, .inl (d2, 300, .inl (fun _ => nI 0))), (q3, .inl (d3, 300, .inl (fun _ => nI 0)))]) := hD
  have hK : va_K D zcl ([(d1, .int), (d2, .int), (d3, .int)]) s := hK
  refine va_putF (D := D) (ci := 2) (v := .ref q3) (ty := .array .int) (C := RM) (T := TM) (N := 12) hx hb hk inM tyM okM nmM hown hK hP hD hS 0 rfl rfl 3 (by decide) (hk _ zk456) (fun _ h9 => h9) rfl hin rfl (by decide +kernel) rfl rfl (Nat.le_of_ble_eq_true rfl) d_M_init_28 (fun H locs hP hD hS => ?_)
  have hP : va_P D zcl ([(h, .inr (2, [.int (nI 0), .ref q1, .ref q2, .ref q3, .null, .null, .null, .null, .int (nI 0), .int (nI 0), .int (nI 0), .int (nI 0)])), (q1, .inl (d1, 8192, .inl (fun _ => nI 0))), (q2, .inl (d2, 300, .inl (fun _ => nI 0))), (q3, .inl (d3, 300, .inl (fun _ => nI 0)))]) H := hP
  have hD : va_D A ([(h, .inr (2, [.int (nI 0), .ref q1, .ref q2, .ref q3, .null, .null, .null, .null, .int (nI 0), .int (nI 0), .int (nI 0), .int (nI 0)])), (q1, .inl (d1, 8192, .inl (fun _ => nI 0))), (q2, .inl (d2, 300, .inl (fun _ => nI 0))), (q3, .inl (d3, 300, .inl (fun _ => nI 0)))]) := hD
  refine lv_aload_n hx hb d_M_init_31 rfl (lv_at hl 0 rfl) ?_
  refine lv_sipush (v := nI 300) hx hb d_M_init_32 (by decide) ?_
  refine va_newa (atype := .int) (ty := .int) (N' := 300) (a0 := (300, .inl (fun _ => nI 0))) hx hb (hk _ zk90) rfl hK hP hD hS hA (fun _ => rfl) (by decide) (by decide) (by decide) (Nat.le_of_ble_eq_true rfl) (Nat.le_of_ble_eq_true rfl) d_M_init_35 (fun q4 d4 H hK hP hD hS => ?_)
  have hP : va_P D zcl ([(h, .inr (2, [.int (nI 0), .ref q1, .ref q2, .ref q3, .null, .null, .null, .null, .int (nI 0), .int (nI 0), .int (nI 0), .int (nI 0)])), (q1, .inl (d1, 8192, .inl (fun _ => nI 0))), (q2, .inl (d2, 300, .inl (fun _ => nI 0))), (q3, .inl (d3, 300, .inl (fun _ => nI 0))), (q4, .inl (d4, 300, .inl (fun _ => nI 0)))]) H := hP
  have hD : va_D A ([(h, .inr (2, [.int (nI 0), .ref q1, .ref q2, .ref q3, .null, .null, .null, .null, .int (nI 0), .int (nI 0), .int (nI 0), .int (nI 0)])), (q1, .inl (d1, 8192, .inl (fun _ => nI 0))), (q2, .inl (d2, 300, .inl (fun _ => nI 0))), (q3, .inl (d3, 300, .inl (fun _ => nI 0))), (q4, .inl (d4, 300, .inl (fun _ => nI 0)))]) := hD
  have hK : va_K D zcl ([(d1, .int), (d2, .int), (d3, .int), (d4, .int)]) s := hK
  refine va_putF (D := D) (ci := 2) (v := .ref q4) (ty := .array .int) (C := RM) (T := TM) (N := 12) hx hb hk inM tyM okM nmM hown hK hP hD hS 0 rfl rfl 4 (by decide) (hk _ zk457) (fun _ h9 => h9) rfl hin rfl (by decide +kernel) rfl rfl (Nat.le_of_ble_eq_true rfl) d_M_init_37 (fun H locs hP hD hS => ?_)
  have hP : va_P D zcl ([(h, .inr (2, [.int (nI 0), .ref q1, .ref q2, .ref q3, .ref q4, .null, .null, .null, .int (nI 0), .int (nI 0), .int (nI 0), .int (nI 0)])), (q1, .inl (d1, 8192, .inl (fun _ => nI 0))), (q2, .inl (d2, 300, .inl (fun _ => nI 0))), (q3, .inl (d3, 300, .inl (fun _ => nI 0))), (q4, .inl (d4, 300, .inl (fun _ => nI 0)))]) H := hP
  have hD : va_D A ([(h, .inr (2, [.int (nI 0), .ref q1, .ref q2, .ref q3, .ref q4, .null, .null, .null, .int (nI 0), .int (nI 0), .int (nI 0), .int (nI 0)])), (q1, .inl (d1, 8192, .inl (fun _ => nI 0))), (q2, .inl (d2, 300, .inl (fun _ => nI 0))), (q3, .inl (d3, 300, .inl (fun _ => nI 0))), (q4, .inl (d4, 300, .inl (fun _ => nI 0)))]) := hD
  refine lv_aload_n hx hb d_M_init_40 rfl (lv_at hl 0 rfl) ?_
  refine lv_sipush (v := nI 300) hx hb d_M_init_41 (by decide) ?_
  refine va_newa (atype := .int) (ty := .int) (N' := 300) (a0 := (300, .inl (fun _ => nI 0))) hx hb (hk _ zk90) rfl hK hP hD hS hA (fun _ => rfl) (by decide) (by decide) (by decide) (Nat.le_of_ble_eq_true rfl) (Nat.le_of_ble_eq_true rfl) d_M_init_44 (fun q5 d5 H hK hP hD hS => ?_)
  have hP : va_P D zcl ([(h, .inr (2, [.int (nI 0), .ref q1, .ref q2, .ref q3, .ref q4, .null, .null, .null, .int (nI 0), .int (nI 0), .int (nI 0), .int (nI 0)])), (q1, .inl (d1, 8192, .inl (fun _ => nI 0))), (q2, .inl (d2, 300, .inl (fun _ => nI 0))), (q3, .inl (d3, 300, .inl (fun _ => nI 0))), (q4, .inl (d4, 300, .inl (fun _ => nI 0))), (q5, .inl (d5, 300, .inl (fun _ => nI 0)))]) H := hP
  have hD : va_D A ([(h, .inr (2, [.int (nI 0), .ref q1, .ref q2, .ref q3, .ref q4, .null, .null, .null, .int (nI 0), .int (nI 0), .int (nI 0), .int (nI 0)])), (q1, .inl (d1, 8192, .inl (fun _ => nI 0))), (q2, .inl (d2, 300, .inl (fun _ => nI 0))), (q3, .inl (d3, 300, .inl (fun _ => nI 0))), (q4, .inl (d4, 300, .inl (fun _ => nI 0))), (q5, .inl (d5, 300, .inl (fun _ => nI 0)))]) := hD
  have hK : va_K D zcl ([(d1, .int), (d2, .int), (d3, .int), (d4, .int), (d5, .int)]) s := hK
  refine va_putF (D := D) (ci := 2) (v := .ref q5) (ty := .array .int) (C := RM) (T := TM) (N := 12) hx hb hk inM tyM okM nmM hown hK hP hD hS 0 rfl rfl 5 (by decide) (hk _ zk458) (fun _ h9 => h9) rfl hin rfl (by decide +kernel) rfl rfl (Nat.le_of_ble_eq_true rfl) d_M_init_46 (fun H locs hP hD hS => ?_)
  have hP : va_P D zcl ([(h, .inr (2, [.int (nI 0), .ref q1, .ref q2, .ref q3, .ref q4, .ref q5, .null, .null, .int (nI 0), .int (nI 0), .int (nI 0), .int (nI 0)])), (q1, .inl (d1, 8192, .inl (fun _ => nI 0))), (q2, .inl (d2, 300, .inl (fun _ => nI 0))), (q3, .inl (d3, 300, .inl (fun _ => nI 0))), (q4, .inl (d4, 300, .inl (fun _ => nI 0))), (q5, .inl (d5, 300, .inl (fun _ => nI 0)))]) H := hP
  have hD : va_D A ([(h, .inr (2, [.int (nI 0), .ref q1, .ref q2, .ref q3, .ref q4, .ref q5, .null, .null, .int (nI 0), .int (nI 0), .int (nI 0), .int (nI 0)])), (q1, .inl (d1, 8192, .inl (fun _ => nI 0))), (q2, .inl (d2, 300, .inl (fun _ => nI 0))), (q3, .inl (d3, 300, .inl (fun _ => nI 0))), (q4, .inl (d4, 300, .inl (fun _ => nI 0))), (q5, .inl (d5, 300, .inl (fun _ => nI 0)))]) := hD
  refine lv_aload_n hx hb d_M_init_49 rfl (lv_at hl 0 rfl) ?_
  refine lv_sipush (v := nI 300) hx hb d_M_init_50 (by decide) ?_
  refine va_newa (atype := .boolean) (ty := .boolean) (N' := 300) (a0 := (300, .inl (fun _ => zb false))) hx hb (hk _ zk490) rfl hK hP hD hS hA (fun _ => rfl) (by decide) (by decide) (by decide) (Nat.le_of_ble_eq_true rfl) (Nat.le_of_ble_eq_true rfl) d_M_init_53 (fun q6 d6 H hK hP hD hS => ?_)
  have hP : va_P D zcl ([(h, .inr (2, [.int (nI 0), .ref q1, .ref q2, .ref q3, .ref q4, .ref q5, .null, .null, .int (nI 0), .int (nI 0), .int (nI 0), .int (nI 0)])), (q1, .inl (d1, 8192, .inl (fun _ => nI 0))), (q2, .inl (d2, 300, .inl (fun _ => nI 0))), (q3, .inl (d3, 300, .inl (fun _ => nI 0))), (q4, .inl (d4, 300, .inl (fun _ => nI 0))), (q5, .inl (d5, 300, .inl (fun _ => nI 0))), (q6, .inl (d6, 300, .inl (fun _ => zb false)))]) H := hP
  have hD : va_D A ([(h, .inr (2, [.int (nI 0), .ref q1, .ref q2, .ref q3, .ref q4, .ref q5, .null, .null, .int (nI 0), .int (nI 0), .int (nI 0), .int (nI 0)])), (q1, .inl (d1, 8192, .inl (fun _ => nI 0))), (q2, .inl (d2, 300, .inl (fun _ => nI 0))), (q3, .inl (d3, 300, .inl (fun _ => nI 0))), (q4, .inl (d4, 300, .inl (fun _ => nI 0))), (q5, .inl (d5, 300, .inl (fun _ => nI 0))), (q6, .inl (d6, 300, .inl (fun _ => zb false)))]) := hD
  have hK : va_K D zcl ([(d1, .int), (d2, .int), (d3, .int), (d4, .int), (d5, .int), (d6, .boolean)]) s := hK
  refine va_putF (D := D) (ci := 2) (v := .ref q6) (ty := .array .boolean) (C := RM) (T := TM) (N := 12) hx hb hk inM tyM okM nmM hown hK hP hD hS 0 rfl rfl 6 (by decide) (hk _ zk459) (fun _ h9 => h9) rfl hin rfl (by decide +kernel) rfl rfl (Nat.le_of_ble_eq_true rfl) d_M_init_55 (fun H locs hP hD hS => ?_)
  have hP : va_P D zcl ([(h, .inr (2, [.int (nI 0), .ref q1, .ref q2, .ref q3, .ref q4, .ref q5, .ref q6, .null, .int (nI 0), .int (nI 0), .int (nI 0), .int (nI 0)])), (q1, .inl (d1, 8192, .inl (fun _ => nI 0))), (q2, .inl (d2, 300, .inl (fun _ => nI 0))), (q3, .inl (d3, 300, .inl (fun _ => nI 0))), (q4, .inl (d4, 300, .inl (fun _ => nI 0))), (q5, .inl (d5, 300, .inl (fun _ => nI 0))), (q6, .inl (d6, 300, .inl (fun _ => zb false)))]) H := hP
  have hD : va_D A ([(h, .inr (2, [.int (nI 0), .ref q1, .ref q2, .ref q3, .ref q4, .ref q5, .ref q6, .null, .int (nI 0), .int (nI 0), .int (nI 0), .int (nI 0)])), (q1, .inl (d1, 8192, .inl (fun _ => nI 0))), (q2, .inl (d2, 300, .inl (fun _ => nI 0))), (q3, .inl (d3, 300, .inl (fun _ => nI 0))), (q4, .inl (d4, 300, .inl (fun _ => nI 0))), (q5, .inl (d5, 300, .inl (fun _ => nI 0))), (q6, .inl (d6, 300, .inl (fun _ => zb false)))]) := hD
  refine lv_aload_n hx hb d_M_init_58 rfl (lv_at hl 0 rfl) ?_
  refine lv_sipush (v := nI 300) hx hb d_M_init_59 (by decide) ?_
  refine va_newa (atype := .int) (ty := .int) (N' := 300) (a0 := (300, .inl (fun _ => nI 0))) hx hb (hk _ zk90) rfl hK hP hD hS hA (fun _ => rfl) (by decide) (by decide) (by decide) (Nat.le_of_ble_eq_true rfl) (Nat.le_of_ble_eq_true rfl) d_M_init_62 (fun q7 d7 H hK hP hD hS => ?_)
  have hP : va_P D zcl ([(h, .inr (2, [.int (nI 0), .ref q1, .ref q2, .ref q3, .ref q4, .ref q5, .ref q6, .null, .int (nI 0), .int (nI 0), .int (nI 0), .int (nI 0)])), (q1, .inl (d1, 8192, .inl (fun _ => nI 0))), (q2, .inl (d2, 300, .inl (fun _ => nI 0))), (q3, .inl (d3, 300, .inl (fun _ => nI 0))), (q4, .inl (d4, 300, .inl (fun _ => nI 0))), (q5, .inl (d5, 300, .inl (fun _ => nI 0))), (q6, .inl (d6, 300, .inl (fun _ => zb false))), (q7, .inl (d7, 300, .inl (fun _ => nI 0)))]) H := hP
  have hD : va_D A ([(h, .inr (2, [.int (nI 0), .ref q1, .ref q2, .ref q3, .ref q4, .ref q5, .ref q6, .null, .int (nI 0), .int (nI 0), .int (nI 0), .int (nI 0)])), (q1, .inl (d1, 8192, .inl (fun _ => nI 0))), (q2, .inl (d2, 300, .inl (fun _ => nI 0))), (q3, .inl (d3, 300, .inl (fun _ => nI 0))), (q4, .inl (d4, 300, .inl (fun _ => nI 0))), (q5, .inl (d5, 300, .inl (fun _ => nI 0))), (q6, .inl (d6, 300, .inl (fun _ => zb false))), (q7, .inl (d7, 300, .inl (fun _ => nI 0)))]) := hD
  have hK : va_K D zcl ([(d1, .int), (d2, .int), (d3, .int), (d4, .int), (d5, .int), (d6, .boolean), (d7, .int)]) s := hK
  refine va_putF (D := D) (ci := 2) (v := .ref q7) (ty := .array .int) (C := RM) (T := TM) (N := 12) hx hb hk inM tyM okM nmM hown hK hP hD hS 0 rfl rfl 7 (by decide) (hk _ zk460) (fun _ h9 => h9) rfl hin rfl (by decide +kernel) rfl rfl (Nat.le_of_ble_eq_true rfl) d_M_init_64 (fun H locs hP hD hS => ?_)
  have hP : va_P D zcl ([(h, .inr (2, [.int (nI 0), .ref q1, .ref q2, .ref q3, .ref q4, .ref q5, .ref q6, .ref q7, .int (nI 0), .int (nI 0), .int (nI 0), .int (nI 0)])), (q1, .inl (d1, 8192, .inl (fun _ => nI 0))), (q2, .inl (d2, 300, .inl (fun _ => nI 0))), (q3, .inl (d3, 300, .inl (fun _ => nI 0))), (q4, .inl (d4, 300, .inl (fun _ => nI 0))), (q5, .inl (d5, 300, .inl (fun _ => nI 0))), (q6, .inl (d6, 300, .inl (fun _ => zb false))), (q7, .inl (d7, 300, .inl (fun _ => nI 0)))]) H := hP
  have hD : va_D A ([(h, .inr (2, [.int (nI 0), .ref q1, .ref q2, .ref q3, .ref q4, .ref q5, .ref q6, .ref q7, .int (nI 0), .int (nI 0), .int (nI 0), .int (nI 0)])), (q1, .inl (d1, 8192, .inl (fun _ => nI 0))), (q2, .inl (d2, 300, .inl (fun _ => nI 0))), (q3, .inl (d3, 300, .inl (fun _ => nI 0))), (q4, .inl (d4, 300, .inl (fun _ => nI 0))), (q5, .inl (d5, 300, .inl (fun _ => nI 0))), (q6, .inl (d6, 300, .inl (fun _ => zb false))), (q7, .inl (d7, 300, .inl (fun _ => nI 0)))]) := hD
  have hP : va_P D zcl (mW (nmk h q1 q2 q3 q4 q5 q6 q7 d1 d2 d3 d4 d5 d6 d7) m0) H := hP
  have hD : va_D A (mW (nmk h q1 q2 q3 q4 q5 q6 q7 d1 d2 d3 d4 d5 d6 d7) m0) := hD
  have hK : va_K D zcl (mT (nmk h q1 q2 q3 q4 q5 q6 q7 d1 d2 d3 d4 d5 d6 d7)) s := hK
  refine W.widen (k := 7) (n := 9992) (by decide) (by decide) ?_
  exact W.vret hx hb hr (fun t ht hW => ⟨⟨(nmk h q1 q2 q3 q4 q5 q6 q7 d1 d2 d3 d4 d5 d6 d7), rfl, rfl, by rw [ht]; exact hP, va_K.moved hW.alike hK, hD⟩, hS.F ht⟩) hS.2.2 d_M_init_67
def z0 : ZT := zmk (fun _ => 0) (fun _ => none) 0 0 0 0 (fun _ => none) 0 (fun _ => 0) 0 (nI 0) 0 0 0 [] [] (fun _ => 0) (fun _ => 0) (fun _ => false) (fun _ => false)
set_option maxHeartbeats 1000000 in
set_option maxRecDepth 100000 in
theorem c_Z_init_ok (l : Launch) (D : va_G) (t0 : Nat) (h sz : Nat) : Met l y_Z_init w_Z_init ({ frames := 4, cells := 5, slots := 9217, locals := 110 }) (zPre D t0 [] ([(h, .inr (0, [.null, .null, .null, .int (nI 0), .int (nI 0), .int (nI 0), .int (nI 0), .null, .int (nI 0), .null, .int (nI 0)]))]) sz [.ref h]) (va_Qv (fun (u : ZG) => g_h u = h) (fun (u : ZG) t => zPost D (zT u z0) (va_A ([(h, .inr (0, [.null, .null, .null, .int (nI 0), .int (nI 0), .int (nI 0), .int (nI 0), .null, .int (nI 0), .null, .int (nI 0)]))]) sz) (zW t0 u z0) t) (va_A ([(h, .inr (0, [.null, .null, .null, .int (nI 0), .int (nI 0), .int (nI 0), .int (nI 0), .null, .int (nI 0), .null, .int (nI 0)]))]) sz)) 5 9217 (va_A ([(h, .inr (0, [.null, .null, .null, .int (nI 0), .int (nI 0), .int (nI 0), .int (nI 0), .null, .int (nI 0), .null, .int (nI 0)]))]) sz) := by
  refine Met.ofW (cc := c_Z_init) (maxL := 1) (ret := none) (by decide) rfl ?_
  intro p e s m args below meth c s₁ B hml hv
  obtain ⟨rfl, hsz, hP, hK, hD0, hE⟩ := hv
  have hx := B.exec
  have hb := B.bytes
  have hr := B.returns
  have hts := atoms_spec (ws := w_Z_init) B.pre
  have hk : ∀ w ∈ zB, w.before _ s = true := fun w h => hts w (List.mem_cons_of_mem _ h)
  have hown : s.vm.findClass "ZoneHeap" = some m.cls := findClass_of_methodNamed B.named
  have hlocks := B.notSynchronized
  subst hsz
  have hD := hD0.self (sz := s.heap.size)
  generalize hAe : va_A ([(h, .inr (0, [.null, .null, .null, .int (nI 0), .int (nI 0), .int (nI 0), .int (nI 0), .null, .int (nI 0), .null, .int (nI 0)]))]) s.heap.size = A at hD hE ⊢
  have hA : ∀ q : Nat, s.heap.size ≤ q → A q := fun q h => by rw [← hAe]; exact Or.inr h
  have hS : va_S A s.heap s.heap [] := va_S.rf
  have hl := lv_entry ([.ref h]) (n := 1) (Nat.le_of_ble_eq_true rfl)
  rw [lg_entry_eq]
  generalize (lg_sl ([.ref h]) ++ List.replicate (1 - (lg_sl ([.ref h])).length) Slot.unset).toArray = ls at hl ⊢
  have hl : lv_has ls 1 [(0, .ref h)] := hl
  have hin : meth.name = "<init>" := (name_of_methodNamed B.named B.method).1
  refine lv_aload_n hx hb d_Z_init_0 rfl (lv_at hl 0 rfl) ?_
  refine W.objInit hx hb hown (hk _ zk24) (hk _ zk25) (hk _ kc_O_init) rfl (by rw [hml]; exact hl.1) rfl d_Z_init_1 (Nat.le_of_ble_eq_true rfl) (Nat.le_of_ble_eq_true rfl) ?_
  refine W.eq (g2 := F0 m 4 ls []) rfl ?_
  refine lv_aload_n hx hb d_Z_init_4 rfl (lv_at hl 0 rfl) ?_
  refine lv_sipush (v := nI 8192) hx hb d_Z_init_5 (by decide) ?_
  refine va_newa (atype := .byte) (ty := .byte) (N' := 8192) (a0 := (8192, .inl (fun _ => sb_b 0))) hx hb (hk _ zk55) rfl hK hP hD hS hA (fun _ => rfl) (by decide) (by decide) (by decide) (Nat.le_of_ble_eq_true rfl) (Nat.le_of_ble_eq_true rfl) d_Z_init_8 (fun q1 d1 H hK hP hD hS => ?_)
  have hP : va_P D zcl ([(h, .inr (0, [.null, .null, .null, .int (nI 0), .int (nI 0), .int (nI 0), .int (nI 0), .null, .int (nI 0), .null, .int (nI 0)])), (q1, .inl (d1, 8192, .inl (fun _ => sb_b 0)))]) H := hP
  have hD : va_D A ([(h, .inr (0, [.null, .null, .null, .int (nI 0), .int (nI 0), .int (nI 0), .int (nI 0), .null, .int (nI 0), .null, .int (nI 0)])), (q1, .inl (d1, 8192, .inl (fun _ => sb_b 0)))]) := hD
  have hK : va_K D zcl ([(d1, .byte)]) s := hK
  refine va_putF (D := D) (ci := 0) (v := .ref q1) (ty := .array .byte) (C := RZ) (T := TZ) (N := 11) hx hb hk inZ tyZ okZ nmZ hown hK hP hD hS 0 rfl rfl 0 (by decide) (hk _ zk56) (fun _ h9 => h9) rfl hin rfl (by decide +kernel) rfl rfl (Nat.le_of_ble_eq_true rfl) d_Z_init_10 (fun H locs hP hD hS => ?_)
  have hP : va_P D zcl ([(h, .inr (0, [.ref q1, .null, .null, .int (nI 0), .int (nI 0), .int (nI 0), .int (nI 0), .null, .int (nI 0), .null, .int (nI 0)])), (q1, .inl (d1, 8192, .inl (fun _ => sb_b 0)))]) H := hP
  have hD : va_D A ([(h, .inr (0, [.ref q1, .null, .null, .int (nI 0), .int (nI 0), .int (nI 0), .int (nI 0), .null, .int (nI 0), .null, .int (nI 0)])), (q1, .inl (d1, 8192, .inl (fun _ => sb_b 0)))]) := hD
  refine lv_aload_n hx hb d_Z_init_13 rfl (lv_at hl 0 rfl) ?_
  refine lv_sipush (v := nI 512) hx hb d_Z_init_14 (by decide) ?_
  refine va_newq (N' := 512) hx hb hown (hk _ zk27) hE.1.2.2.1 hK hP hD hS hA (by decide) (by decide) (by decide) (Nat.le_of_ble_eq_true rfl) (Nat.le_of_ble_eq_true rfl) d_Z_init_17 (fun q2 d2 H hK hP hD hS => ?_)
  have hP : va_P D zcl ([(h, .inr (0, [.ref q1, .null, .null, .int (nI 0), .int (nI 0), .int (nI 0), .int (nI 0), .null, .int (nI 0), .null, .int (nI 0)])), (q1, .inl (d1, 8192, .inl (fun _ => sb_b 0))), (q2, .inl (d2, 512, .inr (.inr (.inr (.inr (fun _ => none))))))]) H := hP
  have hD : va_D A ([(h, .inr (0, [.ref q1, .null, .null, .int (nI 0), .int (nI 0), .int (nI 0), .int (nI 0), .null, .int (nI 0), .null, .int (nI 0)])), (q1, .inl (d1, 8192, .inl (fun _ => sb_b 0))), (q2, .inl (d2, 512, .inr (.inr (.inr (.inr (fun _ => none))))))]) := hD
  have hK : va_K D zcl ([(d1, .byte), (d2, .object RB)]) s := hK
  refine va_putF (D := D) (ci := 0) (v := .ref q2) (ty := .array (.object "ZoneHeap$Block")) (C := RZ) (T := TZ) (N := 11) hx hb hk inZ tyZ okZ nmZ hown hK hP hD hS 0 rfl rfl 1 (by decide) (hk _ zk57) (fun _ h9 => h9) rfl hin rfl (by decide +kernel) rfl rfl (Nat.le_of_ble_eq_true rfl) d_Z_init_20 (fun H locs hP hD hS => ?_)
  have hP : va_P D zcl ([(h, .inr (0, [.ref q1, .ref q2, .null, .int (nI 0), .int (nI 0), .int (nI 0), .int (nI 0), .null, .int (nI 0), .null, .int (nI 0)])), (q1, .inl (d1, 8192, .inl (fun _ => sb_b 0))), (q2, .inl (d2, 512, .inr (.inr (.inr (.inr (fun _ => none))))))]) H := hP
  have hD : va_D A ([(h, .inr (0, [.ref q1, .ref q2, .null, .int (nI 0), .int (nI 0), .int (nI 0), .int (nI 0), .null, .int (nI 0), .null, .int (nI 0)])), (q1, .inl (d1, 8192, .inl (fun _ => sb_b 0))), (q2, .inl (d2, 512, .inr (.inr (.inr (.inr (fun _ => none))))))]) := hD
  refine lv_aload_n hx hb d_Z_init_23 rfl (lv_at hl 0 rfl) ?_
  refine va_new (ci := 3) (fs := [.int (nI 0), .null, .int (nI 0)]) (C := RA) (T := TA) (N := 3) hx hb hk inA tyA okA hown (hk _ zk29) (hk _ zk30) (hk _ zk4) hK hP hD hS hA rfl (fun j hj => by rcases (show j = 0 ∨ j = 1 ∨ j = 2 by omega) with rfl | rfl | rfl <;> rfl) (Nat.le_of_ble_eq_true rfl) (Nat.le_of_ble_eq_true rfl) d_Z_init_24 (fun q3 H hP hD hS => ?_)
  have hP : va_P D zcl ([(h, .inr (0, [.ref q1, .ref q2, .null, .int (nI 0), .int (nI 0), .int (nI 0), .int (nI 0), .null, .int (nI 0), .null, .int (nI 0)])), (q1, .inl (d1, 8192, .inl (fun _ => sb_b 0))), (q2, .inl (d2, 512, .inr (.inr (.inr (.inr (fun _ => none))))))] ++ [(q3, .inr (3, [.int (nI 0), .null, .int (nI 0)]))]) H := hP
  have hD : va_D A ([(h, .inr (0, [.ref q1, .ref q2, .null, .int (nI 0), .int (nI 0), .int (nI 0), .int (nI 0), .null, .int (nI 0), .null, .int (nI 0)])), (q1, .inl (d1, 8192, .inl (fun _ => sb_b 0))), (q2, .inl (d2, 512, .inr (.inr (.inr (.inr (fun _ => none))))))] ++ [(q3, .inr (3, [.int (nI 0), .null, .int (nI 0)]))]) := hD
  refine lv_dup hx hb d_Z_init_27 rfl ?_
  refine zcv (zrI (n := 0) (As := []) (rest := [.ref q3, .ref h]) ⟨hx, hb, hml, hown, hk⟩ (c_A_init_ok l D t0 ([(d1, .byte), (d2, .object RB)]) ([(h, .inr (0, [.ref q1, .ref q2, .null, .int (nI 0), .int (nI 0), .int (nI 0), .int (nI 0), .null, .int (nI 0), .null, .int (nI 0)])), (q1, .inl (d1, 8192, .inl (fun _ => sb_b 0))), (q2, .inl (d2, 512, .inr (.inr (.inr (.inr (fun _ => none))))))]) H.size q3 (nI 0)) zk31 zk32 zk4 kc_A_init rfl ⟨by decide, by decide, by decide⟩ rfl rfl ⟨Nat.le_of_ble_eq_true rfl, Nat.le_of_ble_eq_true rfl⟩ ⟨hP, hK, hD, hS, hA, hE⟩ rfl hl.1 rfl (Nat.le_of_ble_eq_true rfl) d_Z_init_28 ⟨Nat.le_of_ble_eq_true rfl, Nat.le_of_ble_eq_true rfl⟩) ⟨hP, hK, hD, hS, hA, hE⟩ (fun u H locs hu hP hK hD hS => ?_)
  have hP : va_P D zcl ([(h, .inr (0, [.ref q1, .ref q2, .null, .int (nI 0), .int (nI 0), .int (nI 0), .int (nI 0), .null, .int (nI 0), .null, .int (nI 0)])), (q1, .inl (d1, 8192, .inl (fun _ => sb_b 0))), (q2, .inl (d2, 512, .inr (.inr (.inr (.inr (fun _ => none)))))), (q3, .inr (3, [.int (nI 0), .ref t0, .int (nI 0)]))]) H := hP
  have hD : va_D A ([(h, .inr (0, [.ref q1, .ref q2, .null, .int (nI 0), .int (nI 0), .int (nI 0), .int (nI 0), .null, .int (nI 0), .null, .int (nI 0)])), (q1, .inl (d1, 8192, .inl (fun _ => sb_b 0))), (q2, .inl (d2, 512, .inr (.inr (.inr (.inr (fun _ => none)))))), (q3, .inr (3, [.int (nI 0), .ref t0, .int (nI 0)]))]) := hD
  have hK : va_K D zcl ([(d1, .byte), (d2, .object RB)]) s := hK
  refine va_putF (D := D) (ci := 0) (v := .ref q3) (ty := .object "java/util/ArrayList") (C := RZ) (T := TZ) (N := 11) hx hb hk inZ tyZ okZ nmZ hown hK hP hD hS 0 rfl rfl 2 (by decide) (hk _ zk58) (fun _ h9 => h9) rfl hin rfl (by decide +kernel) rfl rfl (Nat.le_of_ble_eq_true rfl) d_Z_init_31 (fun H locs hP hD hS => ?_)
  have hP : va_P D zcl ([(h, .inr (0, [.ref q1, .ref q2, .ref q3, .int (nI 0), .int (nI 0), .int (nI 0), .int (nI 0), .null, .int (nI 0), .null, .int (nI 0)])), (q1, .inl (d1, 8192, .inl (fun _ => sb_b 0))), (q2, .inl (d2, 512, .inr (.inr (.inr (.inr (fun _ => none)))))), (q3, .inr (3, [.int (nI 0), .ref t0, .int (nI 0)]))]) H := hP
  have hD : va_D A ([(h, .inr (0, [.ref q1, .ref q2, .ref q3, .int (nI 0), .int (nI 0), .int (nI 0), .int (nI 0), .null, .int (nI 0), .null, .int (nI 0)])), (q1, .inl (d1, 8192, .inl (fun _ => sb_b 0))), (q2, .inl (d2, 512, .inr (.inr (.inr (.inr (fun _ => none)))))), (q3, .inr (3, [.int (nI 0), .ref t0, .int (nI 0)]))]) := hD
  refine lv_aload_n hx hb d_Z_init_34 rfl (lv_at hl 0 rfl) ?_
  refine lv_iconst (v := nI 0) hx hb d_Z_init_35 (by decide) ?_
  refine va_put (D := D) (ci := 0) (v := .int (nI 0)) (ty := .int) (C := RZ) (T := TZ) (N := 11) hx hb hk inZ tyZ okZ nmZ hown hK hP hD hS 0 rfl rfl 3 (by decide) (hk _ zk59) (fun _ h9 => h9) rfl (by decide +kernel) rfl rfl (Nat.le_of_ble_eq_true rfl) d_Z_init_36 (fun H locs hP hD hS => ?_)
  have hP : va_P D zcl ([(h, .inr (0, [.ref q1, .ref q2, .ref q3, .int (nI 0), .int (nI 0), .int (nI 0), .int (nI 0), .null, .int (nI 0), .null, .int (nI 0)])), (q1, .inl (d1, 8192, .inl (fun _ => sb_b 0))), (q2, .inl (d2, 512, .inr (.inr (.inr (.inr (fun _ => none)))))), (q3, .inr (3, [.int (nI 0), .ref t0, .int (nI 0)]))]) H := hP
  have hD : va_D A ([(h, .inr (0, [.ref q1, .ref q2, .ref q3, .int (nI 0), .int (nI 0), .int (nI 0), .int (nI 0), .null, .int (nI 0), .null, .int (nI 0)])), (q1, .inl (d1, 8192, .inl (fun _ => sb_b 0))), (q2, .inl (d2, 512, .inr (.inr (.inr (.inr (fun _ => none)))))), (q3, .inr (3, [.int (nI 0), .ref t0, .int (nI 0)]))]) := hD
  refine lv_aload_n hx hb d_Z_init_39 rfl (lv_at hl 0 rfl) ?_
  refine lv_iconst (v := nI 0) hx hb d_Z_init_40 (by decide) ?_
  refine va_put (D := D) (ci := 0) (v := .int (nI 0)) (ty := .int) (C := RZ) (T := TZ) (N := 11) hx hb hk inZ tyZ okZ nmZ hown hK hP hD hS 0 rfl rfl 4 (by decide) (hk _ zk60) (fun _ h9 => h9) rfl (by decide +kernel) rfl rfl (Nat.le_of_ble_eq_true rfl) d_Z_init_41 (fun H locs hP hD hS => ?_)
  have hP : va_P D zcl ([(h, .inr (0, [.ref q1, .ref q2, .ref q3, .int (nI 0), .int (nI 0), .int (nI 0), .int (nI 0), .null, .int (nI 0), .null, .int (nI 0)])), (q1, .inl (d1, 8192, .inl (fun _ => sb_b 0))), (q2, .inl (d2, 512, .inr (.inr (.inr (.inr (fun _ => none)))))), (q3, .inr (3, [.int (nI 0), .ref t0, .int (nI 0)]))]) H := hP
  have hD : va_D A ([(h, .inr (0, [.ref q1, .ref q2, .ref q3, .int (nI 0), .int (nI 0), .int (nI 0), .int (nI 0), .null, .int (nI 0), .null, .int (nI 0)])), (q1, .inl (d1, 8192, .inl (fun _ => sb_b 0))), (q2, .inl (d2, 512, .inr (.inr (.inr (.inr (fun _ => none)))))), (q3, .inr (3, [.int (nI 0), .ref t0, .int (nI 0)]))]) := hD
  refine lv_aload_n hx hb d_Z_init_44 rfl (lv_at hl 0 rfl) ?_
  refine lv_iconst (v := nI 0) hx hb d_Z_init_45 (by decide) ?_
  refine va_put (D := D) (ci := 0) (v := .int (nI 0)) (ty := .int) (C := RZ) (T := TZ) (N := 11) hx hb hk inZ tyZ okZ nmZ hown hK hP hD hS 0 rfl rfl 5 (by decide) (hk _ zk61) (fun _ h9 => h9) rfl (by decide +kernel) rfl rfl (Nat.le_of_ble_eq_true rfl) d_Z_init_46 (fun H locs hP hD hS => ?_)
  have hP : va_P D zcl ([(h, .inr (0, [.ref q1, .ref q2, .ref q3, .int (nI 0), .int (nI 0), .int (nI 0), .int (nI 0), .null, .int (nI 0), .null, .int (nI 0)])), (q1, .inl (d1, 8192, .inl (fun _ => sb_b 0))), (q2, .inl (d2, 512, .inr (.inr (.inr (.inr (fun _ => none)))))), (q3, .inr (3, [.int (nI 0), .ref t0, .int (nI 0)]))]) H := hP
  have hD : va_D A ([(h, .inr (0, [.ref q1, .ref q2, .ref q3, .int (nI 0), .int (nI 0), .int (nI 0), .int (nI 0), .null, .int (nI 0), .null, .int (nI 0)])), (q1, .inl (d1, 8192, .inl (fun _ => sb_b 0))), (q2, .inl (d2, 512, .inr (.inr (.inr (.inr (fun _ => none)))))), (q3, .inr (3, [.int (nI 0), .ref t0, .int (nI 0)]))]) := hD
  refine lv_aload_n hx hb d_Z_init_49 rfl (lv_at hl 0 rfl) ?_
  refine lv_iconst (v := nI 0) hx hb d_Z_init_50 (by decide) ?_
  refine va_put (D := D) (ci := 0) (v := .int (nI 0)) (ty := .int) (C := RZ) (T := TZ) (N := 11) hx hb hk inZ tyZ okZ nmZ hown hK hP hD hS 0 rfl rfl 6 (by decide) (hk _ zk62) (fun _ h9 => h9) rfl (by decide +kernel) rfl rfl (Nat.le_of_ble_eq_true rfl) d_Z_init_51 (fun H locs hP hD hS => ?_)
  have hP : va_P D zcl ([(h, .inr (0, [.ref q1, .ref q2, .ref q3, .int (nI 0), .int (nI 0), .int (nI 0), .int (nI 0), .null, .int (nI 0), .null, .int (nI 0)])), (q1, .inl (d1, 8192, .inl (fun _ => sb_b 0))), (q2, .inl (d2, 512, .inr (.inr (.inr (.inr (fun _ => none)))))), (q3, .inr (3, [.int (nI 0), .ref t0, .int (nI 0)]))]) H := hP
  have hD : va_D A ([(h, .inr (0, [.ref q1, .ref q2, .ref q3, .int (nI 0), .int (nI 0), .int (nI 0), .int (nI 0), .null, .int (nI 0), .null, .int (nI 0)])), (q1, .inl (d1, 8192, .inl (fun _ => sb_b 0))), (q2, .inl (d2, 512, .inr (.inr (.inr (.inr (fun _ => none)))))), (q3, .inr (3, [.int (nI 0), .ref t0, .int (nI 0)]))]) := hD
  refine lv_aload_n hx hb d_Z_init_54 rfl (lv_at hl 0 rfl) ?_
  refine lv_sipush (v := nI 255) hx hb d_Z_init_55 (by decide) ?_
  refine va_newq (N' := 255) hx hb hown (hk _ zk27) hE.1.2.2.1 hK hP hD hS hA (by decide) (by decide) (by decide) (Nat.le_of_ble_eq_true rfl) (Nat.le_of_ble_eq_true rfl) d_Z_init_58 (fun q4 d3 H hK hP hD hS => ?_)
  have hP : va_P D zcl ([(h, .inr (0, [.ref q1, .ref q2, .ref q3, .int (nI 0), .int (nI 0), .int (nI 0), .int (nI 0), .null, .int (nI 0), .null, .int (nI 0)])), (q1, .inl (d1, 8192, .inl (fun _ => sb_b 0))), (q2, .inl (d2, 512, .inr (.inr (.inr (.inr (fun _ => none)))))), (q3, .inr (3, [.int (nI 0), .ref t0, .int (nI 0)])), (q4, .inl (d3, 255, .inr (.inr (.inr (.inr (fun _ => none))))))]) H := hP
  have hD : va_D A ([(h, .inr (0, [.ref q1, .ref q2, .ref q3, .int (nI 0), .int (nI 0), .int (nI 0), .int (nI 0), .null, .int (nI 0), .null, .int (nI 0)])), (q1, .inl (d1, 8192, .inl (fun _ => sb_b 0))), (q2, .inl (d2, 512, .inr (.inr (.inr (.inr (fun _ => none)))))), (q3, .inr (3, [.int (nI 0), .ref t0, .int (nI 0)])), (q4, .inl (d3, 255, .inr (.inr (.inr (.inr (fun _ => none))))))]) := hD
  have hK : va_K D zcl ([(d1, .byte), (d2, .object RB), (d3, .object RB)]) s := hK
  refine va_putF (D := D) (ci := 0) (v := .ref q4) (ty := .array (.object "ZoneHeap$Block")) (C := RZ) (T := TZ) (N := 11) hx hb hk inZ tyZ okZ nmZ hown hK hP hD hS 0 rfl rfl 7 (by decide) (hk _ zk63) (fun _ h9 => h9) rfl hin rfl (by decide +kernel) rfl rfl (Nat.le_of_ble_eq_true rfl) d_Z_init_61 (fun H locs hP hD hS => ?_)
  have hP : va_P D zcl ([(h, .inr (0, [.ref q1, .ref q2, .ref q3, .int (nI 0), .int (nI 0), .int (nI 0), .int (nI 0), .ref q4, .int (nI 0), .null, .int (nI 0)])), (q1, .inl (d1, 8192, .inl (fun _ => sb_b 0))), (q2, .inl (d2, 512, .inr (.inr (.inr (.inr (fun _ => none)))))), (q3, .inr (3, [.int (nI 0), .ref t0, .int (nI 0)])), (q4, .inl (d3, 255, .inr (.inr (.inr (.inr (fun _ => none))))))]) H := hP
  have hD : va_D A ([(h, .inr (0, [.ref q1, .ref q2, .ref q3, .int (nI 0), .int (nI 0), .int (nI 0), .int (nI 0), .ref q4, .int (nI 0), .null, .int (nI 0)])), (q1, .inl (d1, 8192, .inl (fun _ => sb_b 0))), (q2, .inl (d2, 512, .inr (.inr (.inr (.inr (fun _ => none)))))), (q3, .inr (3, [.int (nI 0), .ref t0, .int (nI 0)])), (q4, .inl (d3, 255, .inr (.inr (.inr (.inr (fun _ => none))))))]) := hD
  refine lv_aload_n hx hb d_Z_init_64 rfl (lv_at hl 0 rfl) ?_
  refine lv_iconst (v := nI 0) hx hb d_Z_init_65 (by decide) ?_
  refine va_put (D := D) (ci := 0) (v := .int (nI 0)) (ty := .int) (C := RZ) (T := TZ) (N := 11) hx hb hk inZ tyZ okZ nmZ hown hK hP hD hS 0 rfl rfl 8 (by decide) (hk _ zk64) (fun _ h9 => h9) rfl (by decide +kernel) rfl rfl (Nat.le_of_ble_eq_true rfl) d_Z_init_66 (fun H locs hP hD hS => ?_)
  have hP : va_P D zcl ([(h, .inr (0, [.ref q1, .ref q2, .ref q3, .int (nI 0), .int (nI 0), .int (nI 0), .int (nI 0), .ref q4, .int (nI 0), .null, .int (nI 0)])), (q1, .inl (d1, 8192, .inl (fun _ => sb_b 0))), (q2, .inl (d2, 512, .inr (.inr (.inr (.inr (fun _ => none)))))), (q3, .inr (3, [.int (nI 0), .ref t0, .int (nI 0)])), (q4, .inl (d3, 255, .inr (.inr (.inr (.inr (fun _ => none))))))]) H := hP
  have hD : va_D A ([(h, .inr (0, [.ref q1, .ref q2, .ref q3, .int (nI 0), .int (nI 0), .int (nI 0), .int (nI 0), .ref q4, .int (nI 0), .null, .int (nI 0)])), (q1, .inl (d1, 8192, .inl (fun _ => sb_b 0))), (q2, .inl (d2, 512, .inr (.inr (.inr (.inr (fun _ => none)))))), (q3, .inr (3, [.int (nI 0), .ref t0, .int (nI 0)])), (q4, .inl (d3, 255, .inr (.inr (.inr (.inr (fun _ => none))))))]) := hD
  refine lv_aload_n hx hb d_Z_init_69 rfl (lv_at hl 0 rfl) ?_
  refine lv_sipush (v := nI 255) hx hb d_Z_init_70 (by decide) ?_
  refine va_newa (atype := .int) (ty := .int) (N' := 255) (a0 := (255, .inl (fun _ => nI 0))) hx hb (hk _ zk90) rfl hK hP hD hS hA (fun _ => rfl) (by decide) (by decide) (by decide) (Nat.le_of_ble_eq_true rfl) (Nat.le_of_ble_eq_true rfl) d_Z_init_73 (fun q5 d4 H hK hP hD hS => ?_)
  have hP : va_P D zcl ([(h, .inr (0, [.ref q1, .ref q2, .ref q3, .int (nI 0), .int (nI 0), .int (nI 0), .int (nI 0), .ref q4, .int (nI 0), .null, .int (nI 0)])), (q1, .inl (d1, 8192, .inl (fun _ => sb_b 0))), (q2, .inl (d2, 512, .inr (.inr (.inr (.inr (fun _ => none)))))), (q3, .inr (3, [.int (nI 0), .ref t0, .int (nI 0)])), (q4, .inl (d3, 255, .inr (.inr (.inr (.inr (fun _ => none)))))), (q5, .inl (d4, 255, .inl (fun _ => nI 0)))]) H := hP
  have hD : va_D A ([(h, .inr (0, [.ref q1, .ref q2, .ref q3, .int (nI 0), .int (nI 0), .int (nI 0), .int (nI 0), .ref q4, .int (nI 0), .null, .int (nI 0)])), (q1, .inl (d1, 8192, .inl (fun _ => sb_b 0))), (q2, .inl (d2, 512, .inr (.inr (.inr (.inr (fun _ => none)))))), (q3, .inr (3, [.int (nI 0), .ref t0, .int (nI 0)])), (q4, .inl (d3, 255, .inr (.inr (.inr (.inr (fun _ => none)))))), (q5, .inl (d4, 255, .inl (fun _ => nI 0)))]) := hD
  have hK : va_K D zcl ([(d1, .byte), (d2, .object RB), (d3, .object RB), (d4, .int)]) s := hK
  refine va_putF (D := D) (ci := 0) (v := .ref q5) (ty := .array .int) (C := RZ) (T := TZ) (N := 11) hx hb hk inZ tyZ okZ nmZ hown hK hP hD hS 0 rfl rfl 9 (by decide) (hk _ zk65) (fun _ h9 => h9) rfl hin rfl (by decide +kernel) rfl rfl (Nat.le_of_ble_eq_true rfl) d_Z_init_75 (fun H locs hP hD hS => ?_)
  have hP : va_P D zcl ([(h, .inr (0, [.ref q1, .ref q2, .ref q3, .int (nI 0), .int (nI 0), .int (nI 0), .int (nI 0), .ref q4, .int (nI 0), .ref q5, .int (nI 0)])), (q1, .inl (d1, 8192, .inl (fun _ => sb_b 0))), (q2, .inl (d2, 512, .inr (.inr (.inr (.inr (fun _ => none)))))), (q3, .inr (3, [.int (nI 0), .ref t0, .int (nI 0)])), (q4, .inl (d3, 255, .inr (.inr (.inr (.inr (fun _ => none)))))), (q5, .inl (d4, 255, .inl (fun _ => nI 0)))]) H := hP
  have hD : va_D A ([(h, .inr (0, [.ref q1, .ref q2, .ref q3, .int (nI 0), .int (nI 0), .int (nI 0), .int (nI 0), .ref q4, .int (nI 0), .ref q5, .int (nI 0)])), (q1, .inl (d1, 8192, .inl (fun _ => sb_b 0))), (q2, .inl (d2, 512, .inr (.inr (.inr (.inr (fun _ => none)))))), (q3, .inr (3, [.int (nI 0), .ref t0, .int (nI 0)])), (q4, .inl (d3, 255, .inr (.inr (.inr (.inr (fun _ => none)))))), (q5, .inl (d4, 255, .inl (fun _ => nI 0)))]) := hD
  refine lv_aload_n hx hb d_Z_init_78 rfl (lv_at hl 0 rfl) ?_
  refine lv_iconst (v := nI 0) hx hb d_Z_init_79 (by decide) ?_
  refine va_put (D := D) (ci := 0) (v := .int (nI 0)) (ty := .int) (C := RZ) (T := TZ) (N := 11) hx hb hk inZ tyZ okZ nmZ hown hK hP hD hS 0 rfl rfl 10 (by decide) (hk _ zk66) (fun _ h9 => h9) rfl (by decide +kernel) rfl rfl (Nat.le_of_ble_eq_true rfl) d_Z_init_80 (fun H locs hP hD hS => ?_)
  have hP : va_P D zcl ([(h, .inr (0, [.ref q1, .ref q2, .ref q3, .int (nI 0), .int (nI 0), .int (nI 0), .int (nI 0), .ref q4, .int (nI 0), .ref q5, .int (nI 0)])), (q1, .inl (d1, 8192, .inl (fun _ => sb_b 0))), (q2, .inl (d2, 512, .inr (.inr (.inr (.inr (fun _ => none)))))), (q3, .inr (3, [.int (nI 0), .ref t0, .int (nI 0)])), (q4, .inl (d3, 255, .inr (.inr (.inr (.inr (fun _ => none)))))), (q5, .inl (d4, 255, .inl (fun _ => nI 0)))]) H := hP
  have hD : va_D A ([(h, .inr (0, [.ref q1, .ref q2, .ref q3, .int (nI 0), .int (nI 0), .int (nI 0), .int (nI 0), .ref q4, .int (nI 0), .ref q5, .int (nI 0)])), (q1, .inl (d1, 8192, .inl (fun _ => sb_b 0))), (q2, .inl (d2, 512, .inr (.inr (.inr (.inr (fun _ => none)))))), (q3, .inr (3, [.int (nI 0), .ref t0, .int (nI 0)])), (q4, .inl (d3, 255, .inr (.inr (.inr (.inr (fun _ => none)))))), (q5, .inl (d4, 255, .inl (fun _ => nI 0)))]) := hD
  have hP : va_P D zcl (zW t0 (gmk h q1 q2 q3 q4 q5 d1 d2 d3 d4) z0) H := hP
  have hD : va_D A (zW t0 (gmk h q1 q2 q3 q4 q5 d1 d2 d3 d4) z0) := hD
  have hK : va_K D zcl (zT (gmk h q1 q2 q3 q4 q5 d1 d2 d3 d4) z0) s := hK
  refine W.widen (k := 5) (n := 9217) (by decide) (by decide) ?_
  exact W.vret hx hb hr (fun t ht hW => ⟨⟨(gmk h q1 q2 q3 q4 q5 d1 d2 d3 d4), rfl, rfl, by rw [ht]; exact hP, va_K.moved hW.alike hK, hD⟩, hS.F ht⟩) hS.2.2 d_Z_init_83
