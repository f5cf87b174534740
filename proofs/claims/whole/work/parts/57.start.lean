theorem lw_K {s : State} {cZ cB cM cA : ClassId} {iZ iB iM iA : Nat → Nat} (kZ : u_Kn s RZ TZ 11 cZ iZ) (kB : u_Kn s RB TB 4 cB iB) (kM : u_Kn s RM TM 12 cM iM) (kA : u_Kn s RA TA 3 cA iA) : ∃ D : va_G, va_K D zcl [] s := by
  refine ⟨(fun k => match k with | 0 => cZ | 1 => cB | 2 => cM | _ => cA, fun k => match k with | 0 => iZ | 1 => iB | 2 => iM | _ => iA), fun c q h => ?_, fun k q h => by simp at h⟩
  have hc : c < 4 := (List.getElem?_eq_some_iff.mp h).1
  rcases (show c = 0 ∨ c = 1 ∨ c = 2 ∨ c = 3 by omega) with rfl | rfl | rfl | rfl
  · have h : some ((RZ, TZ, 11) : vw_C) = some q := h
    cases h
    exact kZ
  · have h : some ((RB, TB, 4) : vw_C) = some q := h
    cases h
    exact kB
  · have h : some ((RM, TM, 12) : vw_C) = some q := h
    cases h
    exact kM
  · have h : some ((RA, TA, 3) : vw_C) = some q := h
    cases h
    exact kA
theorem lw_sx {own tx : String} {k : Nat} {A : Array Value} {U : State} (h1 : (Cond.stringRef own k tx).before A U = true) (h2 : (Cond.exactly (.string own k) "java/lang/String").before A U = true) : ∃ a, vk_R own k tx a U := by
  obtain ⟨a, c, cell, k9, he, -⟩ := Cond.exactly_spec h2
  exact ⟨a, vk_R.of h1 he⟩
theorem zNw_tbl : ∀ w ∈ zNw, w ∈ tables_1 := by decide +kernel
set_option maxRecDepth 100000 in
set_option maxHeartbeats 1000000 in
theorem lw_env {s : State} {b : Nat} {A : Nat → Prop} (hts : ∀ w ∈ lw_tbl, w.before #[Value.ref b] s = true) (hgv : (Jvm.Cond.and given_1 narrow_1).before #[Value.ref b] s = true) (hA0 : ∀ q : Nat, A q → s.heap.size ≤ q) : ∃ t0, zE t0 A s := by
  have hs := flat_of_before _ hgv
  have hA : ∀ a : Nat, a < s.heap.size → ¬ A a := fun a h q => by have := hA0 a q; omega
  have ht : ∀ w ∈ tables_1, w.before #[Value.ref b] s = true := fun w h => hts w (List.mem_append_right _ h)
  have h1 : (Cond.arrayOf (.static "java/util/ArrayList" "DEFAULTCAPACITY_EMPTY_ELEMENTDATA" "[Ljava/lang/Object;") (.object "java/lang/Object")).before #[Value.ref b] s = true := hs _ (by decide +kernel)
  have h2 : (Cond.eq (.length (.static "java/util/ArrayList" "DEFAULTCAPACITY_EMPTY_ELEMENTDATA" "[Ljava/lang/Object;")) (.int 0)).before #[Value.ref b] s = true := hs _ (by decide +kernel)
  obtain ⟨t0, e0, hT⟩ := va_Tof (N := 0) (f := fun _ => Value.null) (A := A) (by decide) h1 (va_eqt h2) (fun j hj => absurd hj (Nat.not_lt_zero _)) hA
  have hZ : va_Z "java/util/ArrayList" "DEFAULTCAPACITY_EMPTY_ELEMENTDATA" "[Ljava/lang/Object;" (.ref t0) A s s.heap := va_Zref (ht _ (by decide +kernel)) (ht _ (by decide +kernel)) e0 hA
  have hU : vx_Zq Bundle.tN "UNASSIGNED_STACK" Bundle.steD A s s.heap := vx_Zqof (args := #[Value.ref b]) (ht _ (by decide +kernel)) (ht _ (by decide +kernel)) (hs _ (by decide +kernel)) hA
  have hV : vx_Zq Bundle.tN "SUPPRESSED_SENTINEL" Bundle.listD A s s.heap := vx_Zqof (args := #[Value.ref b]) (ht _ (by decide +kernel)) (ht _ (by decide +kernel)) (hs _ (by decide +kernel)) hA
  have hM : ∃ mi, va_Mi "[Ljava/lang/Object;" mi s := va_Mi.of (args := #[Value.ref b]) (hs _ (by decide +kernel))
  have hN1 : va_Nc "java/lang/IllegalStateException" "java/lang/IllegalArgumentException" s := va_Nc.of (args := #[Value.ref b]) (hs _ (by decide +kernel))
  have hN2 : va_Nc "java/lang/IllegalStateException" "java/lang/IndexOutOfBoundsException" s := va_Nc.of (args := #[Value.ref b]) (hs _ (by decide +kernel))
  have hO1 : va_AO "java/lang/Object" s := va_AO.of (A := #[Value.ref b]) (ht _ (by decide +kernel))
  have hO2 : va_AO "ZoneHeap$Block" s := va_AO.of (A := #[Value.ref b]) (ht _ (by decide +kernel))
  have hX : ∀ q ∈ zTx, ∃ a, vk_R "ZoneHeap" q.1 q.2 a s := by
    have k1 : ∀ q ∈ zTx, Cond.stringRef "ZoneHeap" q.1 q.2 ∈ tables_1 := by decide +kernel
    have k2 : ∀ q ∈ zTx, Cond.exactly (.string "ZoneHeap" q.1) "java/lang/String" ∈ flatC (Jvm.Cond.and given_1 narrow_1) := by decide +kernel
    exact fun q hq => lw_sx (ht _ (k1 q hq)) (hs _ (k2 q hq))
  exact ⟨t0, ⟨fun w hw => va_Nw.of (zNw_tab w hw) (ht w (zNw_tbl w hw)), hO1, hO2, hX, hM, hN1, hN2⟩, hU, hV, hZ, hT⟩
set_option maxHeartbeats 1000000 in
set_option maxRecDepth 100000 in
theorem whole_start {p : Program} {e : Env} {s : State} {m : MethodId} {below : List Frame} {meth : Method} {c : Code} (l : Launch) (hst : l.stackTraces = false) {b L : Nat} {xs : Nat → Int32} (hL : L ≤ 1536) (C0 : lw_At p s m meth c b L xs) : W p l e room_1 s m #[Value.ref b] below meth c s.heap [] 0 0 (lw_Z below #[Value.ref b] s) (entryFrame m ([Value.ref b] : List Value).toArray 7) := by
  obtain ⟨hx, hb, hr, hml, hown, hts, hX, hbl, hlocks, hgv⟩ := C0
  have hown : s.vm.findClass "ZoneHeapLaw" = some m.cls := hown
  have hk : ∀ w ∈ zB, w.before #[Value.ref b] s = true := fun w h => hts w (zB_tbl h)
  obtain ⟨cZ, iZ, kZ⟩ := u_known hk inZ (hk _ zk20)
  obtain ⟨cB, iB, kB⟩ := u_known hk inB (hk _ zk121)
  obtain ⟨cM, iM, kM⟩ := u_known hk inM (hk _ zk448)
  obtain ⟨cA, iA, kA⟩ := u_known hk inA (hk _ zk30)
  obtain ⟨D, hK⟩ : ∃ D : va_G, va_K D zcl [] s := lw_K kZ kB kM kA
  obtain ⟨A, hA0, hA⟩ : ∃ A : Nat → Prop, (∀ q : Nat, A q → s.heap.size ≤ q) ∧ (∀ q : Nat, s.heap.size ≤ q → A q) := ⟨fun q => s.heap.size ≤ q, fun _ h => h, fun _ h => h⟩
  obtain ⟨t0, hE⟩ := lw_env hts hgv hA0
  have hP : va_P D zcl [] s.heap := fun k q h => by simp at h
  have hD : va_D A [] := ⟨fun i j p q h => by simp at h, fun k q h => by simp at h⟩
  have hS : va_S A s.heap s.heap [] := va_S.rf
  have hl := lv_entry ([Value.ref b]) (n := 7) (Nat.le_of_ble_eq_true rfl)
  rw [lg_entry_eq]
  generalize (lg_sl ([Value.ref b]) ++ List.replicate (7 - (lg_sl ([Value.ref b])).length) Slot.unset).toArray = ls at hl ⊢
  have hl : lv_has ls 7 [(0, .ref b)] := hl
  refine va_new (ci := 0) (fs := [.null, .null, .null, .int (nI 0), .int (nI 0), .int (nI 0), .int (nI 0), .null, .int (nI 0), .null, .int (nI 0)]) (C := RZ) (T := TZ) (N := 11) hx hb hk inZ tyZ okZ hown (hk _ zk19) (hk _ zk20) (hk _ zk1) hK hP hD hS hA rfl (fun j hj => by rcases (show j = 0 ∨ j = 1 ∨ j = 2 ∨ j = 3 ∨ j = 4 ∨ j = 5 ∨ j = 6 ∨ j = 7 ∨ j = 8 ∨ j = 9 ∨ j = 10 by omega) with rfl | rfl | rfl | rfl | rfl | rfl | rfl | rfl | rfl | rfl | rfl <;> rfl) (Nat.le_of_ble_eq_true rfl) (Nat.le_of_ble_eq_true rfl) d_L_law_0 (fun hz H hP hD hS => ?_)
  have hP : va_P D zcl [(hz, .inr (0, [.null, .null, .null, .int (nI 0), .int (nI 0), .int (nI 0), .int (nI 0), .null, .int (nI 0), .null, .int (nI 0)]))] H := hP
  have hD : va_D A [(hz, .inr (0, [.null, .null, .null, .int (nI 0), .int (nI 0), .int (nI 0), .int (nI 0), .null, .int (nI 0), .null, .int (nI 0)]))] := hD
  refine lv_dup hx hb d_L_law_3 rfl ?_
  refine zcv (zrI (n := 0) (As := []) (rest := [.ref hz]) ⟨hx, hb, hml, hown, hk⟩ (c_Z_init_ok l D t0 hz H.size) zk21 zk22 zk1 kc_Z_init rfl ⟨by decide, by decide, by decide⟩ rfl rfl ⟨Nat.le_of_ble_eq_true rfl, Nat.le_of_ble_eq_true rfl⟩ ⟨hP, hK, hD, hS, hA, hE⟩ rfl hl.1 rfl (Nat.le_of_ble_eq_true rfl) d_L_law_4 ⟨Nat.le_of_ble_eq_true rfl, Nat.le_of_ble_eq_true rfl⟩) ⟨hP, hK, hD, hS, hA, hE⟩ (fun g H locs hg hP hKz hD hS => ?_)
  refine zh_v (show Value.ref hz = Value.ref (g_h g) from by rw [hg]) ?_
  have hP : va_P D zcl (zW t0 g z0) H := hP
  have hKz : va_K D zcl (zT g z0) s := hKz
  have hD : va_D A (zW t0 g z0) := hD
  refine lv_astore_n (lv' := [(1, .ref (g_h g)), (0, .ref b)]) hx hb d_L_law_7 rfl hl (by decide) rfl (fun ls hl => ?_)
  refine va_new (ci := 2) (fs := [.int (nI 0), .null, .null, .null, .null, .null, .null, .null, .int (nI 0), .int (nI 0), .int (nI 0), .int (nI 0)]) (C := RM) (T := TM) (N := 12) hx hb hk inM tyM okM hown (hk _ zk447) (hk _ zk448) (hk _ zk5) hK hP hD hS hA rfl (fun j hj => by rcases (show j = 0 ∨ j = 1 ∨ j = 2 ∨ j = 3 ∨ j = 4 ∨ j = 5 ∨ j = 6 ∨ j = 7 ∨ j = 8 ∨ j = 9 ∨ j = 10 ∨ j = 11 by omega) with rfl | rfl | rfl | rfl | rfl | rfl | rfl | rfl | rfl | rfl | rfl | rfl <;> rfl) (Nat.le_of_ble_eq_true rfl) (Nat.le_of_ble_eq_true rfl) d_L_law_8 (fun hm H hP hD hS => ?_)
  have hPz : va_P D zcl (zW t0 g z0) H := zP_l hP
  have hPn : va_P D zcl [(hm, .inr (2, [.int (nI 0), .null, .null, .null, .null, .null, .null, .null, .int (nI 0), .int (nI 0), .int (nI 0), .int (nI 0)]))] H := zP_r hP
  have hD : va_D A (zW t0 g z0 ++ [(hm, .inr (2, [.int (nI 0), .null, .null, .null, .null, .null, .null, .null, .int (nI 0), .int (nI 0), .int (nI 0), .int (nI 0)]))]) := hD
  refine lv_dup hx hb d_L_law_11 rfl ?_
  have hwM : zHere D t0 [] [(hm, .inr (2, [.int (nI 0), .null, .null, .null, .null, .null, .null, .null, .int (nI 0), .int (nI 0), .int (nI 0), .int (nI 0)]))] A s H locs := ⟨hPn, hK, zD_r hD, hS, hA, hE⟩
  refine zcvF (zrI (n := 0) (As := []) (rest := [.ref hm]) ⟨hx, hb, hml, hown, hk⟩ (c_M_init_ok l D t0 hm H.size) zk449 zk450 zk5 kc_M_init rfl ⟨by decide, by decide, by decide⟩ rfl rfl ⟨Nat.le_of_ble_eq_true rfl, Nat.le_of_ble_eq_true rfl⟩ hwM rfl hl.1 rfl (Nat.le_of_ble_eq_true rfl) d_L_law_12 ⟨Nat.le_of_ble_eq_true rfl, Nat.le_of_ble_eq_true rfl⟩) hwM hPz hD (fun gm H locs hg hPz hPm hKm hD hS => ?_)
  refine zh_v (show Value.ref hm = Value.ref (n_h gm) from by rw [hg]) ?_
  have hPm : va_P D zcl (mW gm m0) H := hPm
  have hKm : va_K D zcl (mT gm) s := hKm
  have hD : va_D A (zW t0 g z0 ++ mW gm m0) := hD
  refine lv_astore_n (lv' := [(2, .ref (n_h gm)), (1, .ref (g_h g)), (0, .ref b)]) hx hb d_L_law_15 rfl hl (by decide) rfl (fun ls hl => ?_)
  refine lv_iconst (v := nI 1) hx hb d_L_law_16 (by decide) ?_
  refine va_newa (atype := .long) (ty := .long) (N' := 1) (a0 := (1, .inr (.inl (fun _ => 0)))) hx hb (hk _ zk582) rfl hK (zP_app hPz hPm) hD hS hA (fun _ => rfl) (by decide) (by decide) (by decide) (Nat.le_of_ble_eq_true rfl) (Nat.le_of_ble_eq_true rfl) d_L_law_17 (fun ao co H hKo hP hD hS => ?_)
  have hKo : va_K D zcl [(co, .long)] s := hKo
  have hP : va_P D zcl ((zW t0 g z0 ++ mW gm m0) ++ [(ao, .inl (co, 1, .inr (.inl (fun _ => 0))))]) H := hP
  have hD : va_D A ((zW t0 g z0 ++ mW gm m0) ++ [(ao, .inl (co, 1, .inr (.inl (fun _ => 0))))]) := hD
  have hD : va_D A (mW gm m0 ++ ((ao, .inl (co, 1, .inr (.inl (fun _ => 0)))) :: zW t0 g z0)) := by
    have h9 := zD_sw hD
    rw [← List.append_assoc] at h9
    exact zD_sw h9
  have hPz : va_P D zcl ((ao, .inl (co, 1, .inr (.inl (fun _ => 0)))) :: zW t0 g z0) H := zP_app (r := [(ao, .inl (co, 1, .inr (.inl (fun _ => 0))))]) (zP_r hP) (zP_l (zP_l hP))
  have hPm : va_P D zcl (mW gm m0) H := zP_r (zP_l hP)
  have hKz : va_K D zcl ((co, .long) :: zT g z0) s := hKo.app hKz
  refine lv_astore_n (lv' := [(3, .ref ao), (2, .ref (n_h gm)), (1, .ref (g_h g)), (0, .ref b)]) hx hb d_L_law_19 rfl hl (by decide) rfl (fun ls hl => ?_)
  refine lv_iconst (v := nI 0) hx hb d_L_law_20 (by decide) ?_
  refine lv_istore (lv' := [(4, .int (nI 0)), (3, .ref ao), (2, .ref (n_h gm)), (1, .ref (g_h g)), (0, .ref b)]) hx hb d_L_law_21 hl (by decide) rfl (fun ls hl => ?_)
  exact lw_loop (i := 0) hr hlocks ⟨⟨hx, hb, hml, hown, hk⟩, hX, hbl, hA0, hA, hE, hL, hst⟩ ⟨hPz, hPm, hKz, hKm, hD, hS, zRel0, Nat.le_refl _, by decide, by decide⟩ (lv_sub hl [4, 3, 2, 1, 0] rfl) (Nat.zero_le _)
