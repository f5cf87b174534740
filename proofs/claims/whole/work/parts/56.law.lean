-- the law: what stays, what goes on from turn to turn
def lwF (p : Program) (l : Launch) (s : State) (m : MethodId) (c : Code) (b L : Nat) (xs : Nat → Int32) (t0 : Nat) (A : Nat → Prop) : Prop :=
  CallFix p m c code 7 s #[Value.ref b] zB "ZoneHeapLaw" ∧ va_X b L xs s s.heap ∧ b < s.heap.size ∧ (∀ q : Nat, A q → s.heap.size ≤ q) ∧ (∀ q : Nat, s.heap.size ≤ q → A q) ∧ zE t0 A s ∧ L ≤ 1536 ∧ l.stackTraces = false
def lwI (D : va_G) (t0 : Nat) (g : ZG) (gm : MG) (ao : Nat) (co : ClassId) (A : Nat → Prop) (s : State) (z : ZT) (y : MT) (f : Nat → Int64) (j : Nat) (H : Heap) (locs : List Loc) (cells slots : Nat) : Prop :=
  va_P D zcl ((ao, .inl (co, 1, .inr (.inl f))) :: zW t0 g z) H ∧ va_P D zcl (mW gm y) H ∧ va_K D zcl ((co, .long) :: zT g z) s ∧ va_K D zcl (mT gm) s ∧ va_D A (mW gm y ++ ((ao, .inl (co, 1, .inr (.inl f))) :: zW t0 g z)) ∧ va_S A s.heap H locs ∧ zRel z y ∧ m_backs y ≤ j ∧ cells ≤ 100 + 4 * j ∧ slots ≤ 20000 + 1016 * j
theorem lw_cmp {L i : Nat} (h1 : L ≤ 1536) (h2 : 3 * i ≤ L) : (nI L - nI 3 < nI (3 * i)) ↔ L < 3 * i + 3 := by
  rw [Int32.lt_iff_toInt_lt, pk_sub_toInt (by omega) (by decide), nI_toInt (by omega)]
  omega
theorem lw_sw (x : Int32) : (∃ k : Nat, k < 10 ∧ x = nI k) ∨ (x.toInt < 0 ∨ 9 < x.toInt) := by
  by_cases h : 0 ≤ x.toInt ∧ x.toInt ≤ 9
  · exact Or.inl ⟨x.toInt.toNat, by omega, Int32.toInt_inj.mp (by rw [nI_toInt (by omega)]; omega)⟩
  · exact Or.inr (by omega)
theorem lw_eq0 {x y : Int64} (h : x = y) : lg_cmp x y = 0 := (lg_cmp_eq x y).mpr h
set_option maxHeartbeats 1000000 in
set_option maxRecDepth 100000 in
theorem lw_get {p : Program} {l : Launch} {e : Env} {s : State} {m : MethodId} {below : List Frame} {meth : Method} {c : Code} {b L : Nat} {xs : Nat → Int32} {D : va_G} {t0 : Nat} {g : ZG} {gm : MG} {ao : Nat} {co : ClassId} {A : Nat → Prop} {z : ZT} {y : MT} {f : Nat → Int64} {i : Nat} {H : Heap} {locs : List Loc} {cells slots : Nat} {ls : Array Slot} {Q : State → Prop} (hF : lwF p l s m c b L xs t0 A) (hI : lwI D t0 g gm ao co A s z y f i H locs cells slots) (hl : lv_has ls 7 [(0, .ref b), (1, .ref (g_h g)), (2, .ref (n_h gm)), (3, .ref ao), (4, .int (nI (3 * i)))]) (hi : 3 * i + 3 ≤ L)
    (kk : ∀ (z : ZT) (y : MT) (f : Nat → Int64) (H : Heap) (locs : List Loc) (cells slots : Nat) (ls : Array Slot), lwI D t0 g gm ao co A s z y f (i + 1) H locs cells slots → lv_has ls 7 [(0, .ref b), (1, .ref (g_h g)), (2, .ref (n_h gm)), (3, .ref ao), (4, .int (nI (3 * i)))] → W p l e room_1 s m #[Value.ref b] below meth c H locs cells slots Q (F0 m 637 ls [])) : W p l e room_1 s m #[Value.ref b] below meth c H locs cells slots Q (F0 m 92 ls []) := by
  obtain ⟨⟨hx, hb, hml, hown, hk⟩, hX, hbl, hA0, hA, hE, hL, hst⟩ := hF
  obtain ⟨hPz, hPm, hKz, hKm, hD, hS, hRel, hbs, hce, hsl⟩ := hI
  have hz := hRel.1
  have hy := hRel.2.1
  have hbA : ¬ A b := fun h => by have := hA0 b h; omega
  have hbk : m_backs y + 1 < 100000 := by omega
  obtain ⟨v, hv1⟩ : ∃ v : Int32, xs (nI (3 * i + 1)).toNatClampNeg = v := ⟨_, rfl⟩
  refine lv_aload_n hx hb d_L_law_92 rfl (lv_at hl 1 rfl) ?_
  refine lv_aload_n hx hb d_L_law_93 rfl (lv_at hl 0 rfl) ?_
  refine lv_iload hx hb d_L_law_94 (lv_at hl 4 rfl) ?_
  refine lv_iconst (v := nI 1) hx hb d_L_law_96 (by decide) ?_
  refine lv_iadd hx hb d_L_law_97 ?_
  refine zh_t (show (nI (3 * i) + nI 1) = nI ((3 * i) + 1) from nI_add _ _) ?_
  refine va_sld hx hb hX hbl hbA hS (vp_in_nI (by omega) (by omega)) d_L_law_98 ?_
  refine zh_t hv1 ?_
  refine lv_aload_n hx hb d_L_law_99 rfl (lv_at hl 3 rfl) ?_
  have hwZ : zHere D t0 ((co, .long) :: zT g z) ((ao, .inl (co, 1, .inr (.inl f))) :: zW t0 g z) A s H locs := ⟨hPz, hKz, zD_r hD, hS, hA, hE⟩
  refine zciF (zrSW (n := 3) (As := [.ref (g_h g), .int v, .ref ao]) (rest := []) ⟨hx, hb, hml, hown, hk⟩ (c_L_get_ok l D t0 g z H.size ao co f v hz hst) zk135 zk136 zk0 kc_L_get ⟨by decide, by decide, by decide⟩ rfl rfl ⟨Nat.le_of_ble_eq_true rfl, Nat.le_of_ble_eq_true rfl⟩ hwZ rfl hl.1 rfl (Nat.le_of_ble_eq_true rfl) d_L_law_100 ⟨show cells + 2 ≤ 601024 from by omega, show slots + 10 ≤ 7293034 from by omega⟩) hwZ hPm hD (fun r1 uu H locs h1 hPm hPz hKz hD hS => ?_)
  have hPz : va_P D zcl ((ao, .inl (co, 1, .inr (.inl uu.2))) :: zW t0 g uu.1) H := hPz
  have hKz : va_K D zcl ((co, .long) :: zT g uu.1) s := hKz
  have hD : va_D A (mW gm y ++ ((ao, .inl (co, 1, .inr (.inl uu.2))) :: zW t0 g uu.1)) := hD
  refine lv_istore (lv' := [(5, .int r1), (0, .ref b), (1, .ref (g_h g)), (2, .ref (n_h gm)), (3, .ref ao), (4, .int (nI (3 * i)))]) hx hb d_L_law_103 hl (by decide) rfl (fun ls hl => ?_)
  refine lv_aload_n hx hb d_L_law_105 rfl (lv_at hl 3 rfl) ?_
  refine lv_aload_n hx hb d_L_law_106 rfl (lv_at hl 1 rfl) ?_
  refine lv_iload hx hb d_L_law_107 (lv_at hl 5 rfl) ?_
  refine lv_iconst (v := nI 1) hx hb d_L_law_109 (by decide) ?_
  refine lv_iadd hx hb d_L_law_110 ?_
  refine zh_t (show (nI (3 * i) + nI 1) = nI ((3 * i) + 1) from nI_add _ _) ?_
  refine va_sld hx hb hX hbl hbA hS (vp_in_nI (by omega) (by omega)) d_L_law_111 ?_
  refine zh_t hv1 ?_
  have hwM : zHere D t0 (mT gm) (mW gm y) A s H locs := ⟨hPm, hKm, zD_l hD, hS, hA, hE⟩
  refine zciF (zrV (n := 1) (As := [.int v]) (rest := []) ⟨hx, hb, hml, hown, hk⟩ (c_M_get_ok l D t0 gm y H.size v hy) zk495 zk496 zk497 zk5 kc_M_get ⟨rfl, by decide, by decide, by decide⟩ rfl rfl ⟨Nat.le_of_ble_eq_true rfl, Nat.le_of_ble_eq_true rfl⟩ hwM (va_recv hKm hPm (ci := 2) (q0 := 0) rfl rfl) rfl hl.1 rfl (Nat.le_of_ble_eq_true rfl) d_L_law_112 ⟨show cells + 2 + 0 ≤ 601024 from by omega, show slots + 10 + 0 ≤ 7293034 from by omega⟩) hwM hPz (zD_sw hD) (fun r2 yu H locs h2 hPz hPm hKm hD hS => ?_)
  have hPm : va_P D zcl (mW gm yu) H := hPm
  have hKm : va_K D zcl (mT gm) s := hKm
  have hD : va_D A (mW gm yu ++ ((ao, .inl (co, 1, .inr (.inl uu.2))) :: zW t0 g uu.1)) := zD_sw hD
  have hsm := op_get hRel h1 h2
  refine lv_istore (lv' := [(6, .int r2), (5, .int r1), (0, .ref b), (1, .ref (g_h g)), (2, .ref (n_h gm)), (3, .ref ao), (4, .int (nI (3 * i)))]) hx hb d_L_law_115 hl (by decide) rfl (fun ls hl => ?_)
  refine lv_aload_n hx hb d_L_law_117 rfl (lv_at hl 4 rfl) ?_
  have hwM : zHere D t0 (mT gm) (mW gm yu) A s H locs := ⟨hPm, hKm, zD_l hD, hS, hA, hE⟩
  refine vp_callSi (zrV (n := 0) (As := []) (rest := []) ⟨hx, hb, hml, hown, hk⟩ (c_M_thrown_ok l D t0 gm yu H.size) zk491 zk492 zk493 zk5 kc_M_thrown ⟨rfl, by decide, by decide, by decide⟩ rfl rfl ⟨Nat.le_of_ble_eq_true rfl, Nat.le_of_ble_eq_true rfl⟩ hwM (va_recv hKm hPm (ci := 2) (q0 := 0) rfl rfl) rfl hl.1 rfl (Nat.le_of_ble_eq_true rfl) d_L_law_118 ⟨show cells + 2 + 0 + 0 ≤ 601024 from by omega, show slots + 10 + 0 + 0 ≤ 7293034 from by omega⟩).run (fun r3 h3 => ?_)
  refine lv_iload hx hb d_L_law_121 (lv_at hl 1 rfl) ?_
  refine lv_icmp_eq (tgt := 128) hx hb d_L_law_123 (by decide) (fun _ => ?_) (fun h9 => absurd (h3.trans hsm.2.1.symm) h9)
  refine lv_iload hx hb d_L_law_128 (lv_at hl 1 rfl) ?_
  refine lv_if_ne (tgt := 145) hx hb d_L_law_130 (by decide) (fun _ => ?_) (fun h0 => ?_)
  · refine lv_goto (tgt := 637) hx hb d_L_law_145 (by decide) ?_
    exact kk uu.1 yu uu.2 H locs _ _ ls ⟨hPz, hPm, hKz, hKm, hD, hS, hsm.1, by have := hsm.2.2.2; omega, by omega, by omega⟩ (lv_sub hl [2, 3, 4, 5, 6] rfl)
  refine lv_aload_n hx hb d_L_law_133 rfl (lv_at hl 5 rfl) ?_
  refine lv_iconst (v := nI 0) hx hb d_L_law_134 (by decide) ?_
  refine va_lald hx hb hKz hPz 0 0 rfl rfl (vp_in_nI (by decide) (by decide)) d_L_law_135 ?_
  refine lv_iload hx hb d_L_law_136 (lv_at hl 0 rfl) ?_
  refine lv_i2l hx hb d_L_law_138 rfl ?_
  refine W.lcmp hx hb d_L_law_139 ?_
  refine lv_if_eq (tgt := 145) hx hb d_L_law_140 (by decide) (fun _ => ?_) (fun h9 => absurd (lw_eq0 (show uu.2 (nI 0).toNatClampNeg = r2.toInt64 from by rw [nI_clamp (by decide)]; exact hsm.2.2.1 h0)) h9)
  refine lv_goto (tgt := 637) hx hb d_L_law_145 (by decide) ?_
  exact kk uu.1 yu uu.2 H locs _ _ ls ⟨hPz, hPm, hKz, hKm, hD, hS, hsm.1, by have := hsm.2.2.2; omega, by omega, by omega⟩ (lv_sub hl [2, 3, 4, 5, 6] rfl)
set_option maxHeartbeats 1000000 in
set_option maxRecDepth 100000 in
theorem lw_back {p : Program} {l : Launch} {e : Env} {s : State} {m : MethodId} {below : List Frame} {meth : Method} {c : Code} {b L : Nat} {xs : Nat → Int32} {D : va_G} {t0 : Nat} {g : ZG} {gm : MG} {ao : Nat} {co : ClassId} {A : Nat → Prop} {z : ZT} {y : MT} {f : Nat → Int64} {i : Nat} {H : Heap} {locs : List Loc} {cells slots : Nat} {ls : Array Slot} {Q : State → Prop} (hF : lwF p l s m c b L xs t0 A) (hI : lwI D t0 g gm ao co A s z y f i H locs cells slots) (hl : lv_has ls 7 [(0, .ref b), (1, .ref (g_h g)), (2, .ref (n_h gm)), (3, .ref ao), (4, .int (nI (3 * i)))]) (hi : 3 * i + 3 ≤ L)
    (kk : ∀ (z : ZT) (y : MT) (f : Nat → Int64) (H : Heap) (locs : List Loc) (cells slots : Nat) (ls : Array Slot), lwI D t0 g gm ao co A s z y f (i + 1) H locs cells slots → lv_has ls 7 [(0, .ref b), (1, .ref (g_h g)), (2, .ref (n_h gm)), (3, .ref ao), (4, .int (nI (3 * i)))] → W p l e room_1 s m #[Value.ref b] below meth c H locs cells slots Q (F0 m 637 ls [])) : W p l e room_1 s m #[Value.ref b] below meth c H locs cells slots Q (F0 m 148 ls []) := by
  obtain ⟨⟨hx, hb, hml, hown, hk⟩, hX, hbl, hA0, hA, hE, hL, hst⟩ := hF
  obtain ⟨hPz, hPm, hKz, hKm, hD, hS, hRel, hbs, hce, hsl⟩ := hI
  have hz := hRel.1
  have hy := hRel.2.1
  have hbA : ¬ A b := fun h => by have := hA0 b h; omega
  have hbk : m_backs y + 1 < 100000 := by omega
  obtain ⟨v, hv1⟩ : ∃ v : Int32, xs (nI (3 * i + 1)).toNatClampNeg = v := ⟨_, rfl⟩
  obtain ⟨hh, hko⟩ := zRel.mark (v := v) hRel
  refine lv_aload_n hx hb d_L_law_148 rfl (lv_at hl 1 rfl) ?_
  refine lv_aload_n hx hb d_L_law_149 rfl (lv_at hl 0 rfl) ?_
  refine lv_iload hx hb d_L_law_150 (lv_at hl 4 rfl) ?_
  refine lv_iconst (v := nI 1) hx hb d_L_law_152 (by decide) ?_
  refine lv_iadd hx hb d_L_law_153 ?_
  refine zh_t (show (nI (3 * i) + nI 1) = nI ((3 * i) + 1) from nI_add _ _) ?_
  refine va_sld hx hb hX hbl hbA hS (vp_in_nI (by omega) (by omega)) d_L_law_154 ?_
  refine zh_t hv1 ?_
  refine lv_aload_n hx hb d_L_law_155 rfl (lv_at hl 3 rfl) ?_
  have hwZ : zHere D t0 ((co, .long) :: zT g z) ((ao, .inl (co, 1, .inr (.inl f))) :: zW t0 g z) A s H locs := ⟨hPz, hKz, zD_r hD, hS, hA, hE⟩
  refine zciF (zrSW (n := 3) (As := [.ref (g_h g), .int v, .ref ao]) (rest := []) ⟨hx, hb, hml, hown, hk⟩ (c_L_back_ok l D t0 g z H.size ao co f v hz hh hko hst) zk252 zk253 zk0 kc_L_back ⟨by decide, by decide, by decide⟩ rfl rfl ⟨Nat.le_of_ble_eq_true rfl, Nat.le_of_ble_eq_true rfl⟩ hwZ rfl hl.1 rfl (Nat.le_of_ble_eq_true rfl) d_L_law_156 ⟨show cells + 2 ≤ 601024 from by omega, show slots + 1006 ≤ 7293034 from by omega⟩) hwZ hPm hD (fun r1 uu H locs h1 hPm hPz hKz hD hS => ?_)
  have hPz : va_P D zcl ((ao, .inl (co, 1, .inr (.inl uu.2))) :: zW t0 g uu.1) H := hPz
  have hKz : va_K D zcl ((co, .long) :: zT g uu.1) s := hKz
  have hD : va_D A (mW gm y ++ ((ao, .inl (co, 1, .inr (.inl uu.2))) :: zW t0 g uu.1)) := hD
  refine lv_istore (lv' := [(5, .int r1), (0, .ref b), (1, .ref (g_h g)), (2, .ref (n_h gm)), (3, .ref ao), (4, .int (nI (3 * i)))]) hx hb d_L_law_159 hl (by decide) rfl (fun ls hl => ?_)
  refine lv_aload_n hx hb d_L_law_161 rfl (lv_at hl 3 rfl) ?_
  refine lv_aload_n hx hb d_L_law_162 rfl (lv_at hl 1 rfl) ?_
  refine lv_iload hx hb d_L_law_163 (lv_at hl 5 rfl) ?_
  refine lv_iconst (v := nI 1) hx hb d_L_law_165 (by decide) ?_
  refine lv_iadd hx hb d_L_law_166 ?_
  refine zh_t (show (nI (3 * i) + nI 1) = nI ((3 * i) + 1) from nI_add _ _) ?_
  refine va_sld hx hb hX hbl hbA hS (vp_in_nI (by omega) (by omega)) d_L_law_167 ?_
  refine zh_t hv1 ?_
  have hwM : zHere D t0 (mT gm) (mW gm y) A s H locs := ⟨hPm, hKm, zD_l hD, hS, hA, hE⟩
  refine zciF (zrV (n := 1) (As := [.int v]) (rest := []) ⟨hx, hb, hml, hown, hk⟩ (c_M_back_ok l D t0 gm y H.size v hy hbk) zk514 zk515 zk516 zk5 kc_M_back ⟨rfl, by decide, by decide, by decide⟩ rfl rfl ⟨Nat.le_of_ble_eq_true rfl, Nat.le_of_ble_eq_true rfl⟩ hwM (va_recv hKm hPm (ci := 2) (q0 := 0) rfl rfl) rfl hl.1 rfl (Nat.le_of_ble_eq_true rfl) d_L_law_168 ⟨show cells + 2 + 0 ≤ 601024 from by omega, show slots + 1006 + 0 ≤ 7293034 from by omega⟩) hwM hPz (zD_sw hD) (fun r2 yu H locs h2 hPz hPm hKm hD hS => ?_)
  have hPm : va_P D zcl (mW gm yu) H := hPm
  have hKm : va_K D zcl (mT gm) s := hKm
  have hD : va_D A (mW gm yu ++ ((ao, .inl (co, 1, .inr (.inl uu.2))) :: zW t0 g uu.1)) := zD_sw hD
  have hsm := op_back hRel hbk h1 h2
  refine lv_istore (lv' := [(6, .int r2), (5, .int r1), (0, .ref b), (1, .ref (g_h g)), (2, .ref (n_h gm)), (3, .ref ao), (4, .int (nI (3 * i)))]) hx hb d_L_law_171 hl (by decide) rfl (fun ls hl => ?_)
  refine lv_aload_n hx hb d_L_law_173 rfl (lv_at hl 4 rfl) ?_
  have hwM : zHere D t0 (mT gm) (mW gm yu) A s H locs := ⟨hPm, hKm, zD_l hD, hS, hA, hE⟩
  refine vp_callSi (zrV (n := 0) (As := []) (rest := []) ⟨hx, hb, hml, hown, hk⟩ (c_M_thrown_ok l D t0 gm yu H.size) zk491 zk492 zk493 zk5 kc_M_thrown ⟨rfl, by decide, by decide, by decide⟩ rfl rfl ⟨Nat.le_of_ble_eq_true rfl, Nat.le_of_ble_eq_true rfl⟩ hwM (va_recv hKm hPm (ci := 2) (q0 := 0) rfl rfl) rfl hl.1 rfl (Nat.le_of_ble_eq_true rfl) d_L_law_174 ⟨show cells + 2 + 0 + 0 ≤ 601024 from by omega, show slots + 1006 + 0 + 0 ≤ 7293034 from by omega⟩).run (fun r3 h3 => ?_)
  refine lv_iload hx hb d_L_law_177 (lv_at hl 1 rfl) ?_
  refine lv_icmp_eq (tgt := 184) hx hb d_L_law_179 (by decide) (fun _ => ?_) (fun h9 => absurd (h3.trans hsm.2.1.symm) h9)
  refine lv_iload hx hb d_L_law_184 (lv_at hl 1 rfl) ?_
  refine lv_if_ne (tgt := 201) hx hb d_L_law_186 (by decide) (fun _ => ?_) (fun h0 => ?_)
  · refine lv_goto (tgt := 637) hx hb d_L_law_201 (by decide) ?_
    exact kk uu.1 yu uu.2 H locs _ _ ls ⟨hPz, hPm, hKz, hKm, hD, hS, hsm.1, by have := hsm.2.2.2; omega, by omega, by omega⟩ (lv_sub hl [2, 3, 4, 5, 6] rfl)
  refine lv_aload_n hx hb d_L_law_189 rfl (lv_at hl 5 rfl) ?_
  refine lv_iconst (v := nI 0) hx hb d_L_law_190 (by decide) ?_
  refine va_lald hx hb hKz hPz 0 0 rfl rfl (vp_in_nI (by decide) (by decide)) d_L_law_191 ?_
  refine lv_iload hx hb d_L_law_192 (lv_at hl 0 rfl) ?_
  refine lv_i2l hx hb d_L_law_194 rfl ?_
  refine W.lcmp hx hb d_L_law_195 ?_
  refine lv_if_eq (tgt := 201) hx hb d_L_law_196 (by decide) (fun _ => ?_) (fun h9 => absurd (lw_eq0 (show uu.2 (nI 0).toNatClampNeg = r2.toInt64 from by rw [nI_clamp (by decide)]; exact hsm.2.2.1 h0)) h9)
  refine lv_goto (tgt := 637) hx hb d_L_law_201 (by decide) ?_
  exact kk uu.1 yu uu.2 H locs _ _ ls ⟨hPz, hPm, hKz, hKm, hD, hS, hsm.1, by have := hsm.2.2.2; omega, by omega, by omega⟩ (lv_sub hl [2, 3, 4, 5, 6] rfl)
set_option maxHeartbeats 1000000 in
set_option maxRecDepth 100000 in
theorem lw_again {p : Program} {l : Launch} {e : Env} {s : State} {m : MethodId} {below : List Frame} {meth : Method} {c : Code} {b L : Nat} {xs : Nat → Int32} {D : va_G} {t0 : Nat} {g : ZG} {gm : MG} {ao : Nat} {co : ClassId} {A : Nat → Prop} {z : ZT} {y : MT} {f : Nat → Int64} {i : Nat} {H : Heap} {locs : List Loc} {cells slots : Nat} {ls : Array Slot} {Q : State → Prop} (hF : lwF p l s m c b L xs t0 A) (hI : lwI D t0 g gm ao co A s z y f i H locs cells slots) (hl : lv_has ls 7 [(0, .ref b), (1, .ref (g_h g)), (2, .ref (n_h gm)), (3, .ref ao), (4, .int (nI (3 * i)))]) (hi : 3 * i + 3 ≤ L)
    (kk : ∀ (z : ZT) (y : MT) (f : Nat → Int64) (H : Heap) (locs : List Loc) (cells slots : Nat) (ls : Array Slot), lwI D t0 g gm ao co A s z y f (i + 1) H locs cells slots → lv_has ls 7 [(0, .ref b), (1, .ref (g_h g)), (2, .ref (n_h gm)), (3, .ref ao), (4, .int (nI (3 * i)))] → W p l e room_1 s m #[Value.ref b] below meth c H locs cells slots Q (F0 m 637 ls [])) : W p l e room_1 s m #[Value.ref b] below meth c H locs cells slots Q (F0 m 204 ls []) := by
  obtain ⟨⟨hx, hb, hml, hown, hk⟩, hX, hbl, hA0, hA, hE, hL, hst⟩ := hF
  obtain ⟨hPz, hPm, hKz, hKm, hD, hS, hRel, hbs, hce, hsl⟩ := hI
  have hz := hRel.1
  have hy := hRel.2.1
  have hbA : ¬ A b := fun h => by have := hA0 b h; omega
  have hbk : m_backs y + 1 < 100000 := by omega
  obtain ⟨v, hv1⟩ : ∃ v : Int32, xs (nI (3 * i + 1)).toNatClampNeg = v := ⟨_, rfl⟩
  obtain ⟨v2, hv2⟩ : ∃ v : Int32, xs (nI (3 * i + 2)).toNatClampNeg = v := ⟨_, rfl⟩
  obtain ⟨hh, hko⟩ := zRel.mark (v := v) hRel
  refine lv_aload_n hx hb d_L_law_204 rfl (lv_at hl 1 rfl) ?_
  refine lv_aload_n hx hb d_L_law_205 rfl (lv_at hl 0 rfl) ?_
  refine lv_iload hx hb d_L_law_206 (lv_at hl 4 rfl) ?_
  refine lv_iconst (v := nI 1) hx hb d_L_law_208 (by decide) ?_
  refine lv_iadd hx hb d_L_law_209 ?_
  refine zh_t (show (nI (3 * i) + nI 1) = nI ((3 * i) + 1) from nI_add _ _) ?_
  refine va_sld hx hb hX hbl hbA hS (vp_in_nI (by omega) (by omega)) d_L_law_210 ?_
  refine zh_t hv1 ?_
  refine lv_aload_n hx hb d_L_law_211 rfl (lv_at hl 0 rfl) ?_
  refine lv_iload hx hb d_L_law_212 (lv_at hl 4 rfl) ?_
  refine lv_iconst (v := nI 2) hx hb d_L_law_214 (by decide) ?_
  refine lv_iadd hx hb d_L_law_215 ?_
  refine zh_t (show (nI (3 * i) + nI 2) = nI ((3 * i) + 2) from nI_add _ _) ?_
  refine va_sld hx hb hX hbl hbA hS (vp_in_nI (by omega) (by omega)) d_L_law_216 ?_
  refine zh_t hv2 ?_
  refine lv_aload_n hx hb d_L_law_217 rfl (lv_at hl 3 rfl) ?_
  have hwZ : zHere D t0 ((co, .long) :: zT g z) ((ao, .inl (co, 1, .inr (.inl f))) :: zW t0 g z) A s H locs := ⟨hPz, hKz, zD_r hD, hS, hA, hE⟩
  refine zciF (zrSW (n := 4) (As := [.ref (g_h g), .int v, .int v2, .ref ao]) (rest := []) ⟨hx, hb, hml, hown, hk⟩ (c_L_again_ok l D t0 g z H.size ao co f v v2 hz hh hko hst) zk364 zk365 zk0 kc_L_again ⟨by decide, by decide, by decide⟩ rfl rfl ⟨Nat.le_of_ble_eq_true rfl, Nat.le_of_ble_eq_true rfl⟩ hwZ rfl hl.1 rfl (Nat.le_of_ble_eq_true rfl) d_L_law_218 ⟨show cells + 4 ≤ 601024 from by omega, show slots + 1016 ≤ 7293034 from by omega⟩) hwZ hPm hD (fun r1 uu H locs h1 hPm hPz hKz hD hS => ?_)
  have hPz : va_P D zcl ((ao, .inl (co, 1, .inr (.inl uu.2))) :: zW t0 g uu.1) H := hPz
  have hKz : va_K D zcl ((co, .long) :: zT g uu.1) s := hKz
  have hD : va_D A (mW gm y ++ ((ao, .inl (co, 1, .inr (.inl uu.2))) :: zW t0 g uu.1)) := hD
  refine lv_istore (lv' := [(5, .int r1), (0, .ref b), (1, .ref (g_h g)), (2, .ref (n_h gm)), (3, .ref ao), (4, .int (nI (3 * i)))]) hx hb d_L_law_221 hl (by decide) rfl (fun ls hl => ?_)
  refine lv_aload_n hx hb d_L_law_223 rfl (lv_at hl 3 rfl) ?_
  refine lv_aload_n hx hb d_L_law_224 rfl (lv_at hl 1 rfl) ?_
  refine lv_iload hx hb d_L_law_225 (lv_at hl 5 rfl) ?_
  refine lv_iconst (v := nI 1) hx hb d_L_law_227 (by decide) ?_
  refine lv_iadd hx hb d_L_law_228 ?_
  refine zh_t (show (nI (3 * i) + nI 1) = nI ((3 * i) + 1) from nI_add _ _) ?_
  refine va_sld hx hb hX hbl hbA hS (vp_in_nI (by omega) (by omega)) d_L_law_229 ?_
  refine zh_t hv1 ?_
  refine lv_aload_n hx hb d_L_law_230 rfl (lv_at hl 1 rfl) ?_
  refine lv_iload hx hb d_L_law_231 (lv_at hl 5 rfl) ?_
  refine lv_iconst (v := nI 2) hx hb d_L_law_233 (by decide) ?_
  refine lv_iadd hx hb d_L_law_234 ?_
  refine zh_t (show (nI (3 * i) + nI 2) = nI ((3 * i) + 2) from nI_add _ _) ?_
  refine va_sld hx hb hX hbl hbA hS (vp_in_nI (by omega) (by omega)) d_L_law_235 ?_
  refine zh_t hv2 ?_
  have hwM : zHere D t0 (mT gm) (mW gm y) A s H locs := ⟨hPm, hKm, zD_l hD, hS, hA, hE⟩
  refine zciF (zrV (n := 2) (As := [.int v, .int v2]) (rest := []) ⟨hx, hb, hml, hown, hk⟩ (c_M_again_ok l D t0 gm y H.size v v2 hy hbk) zk530 zk531 zk532 zk5 kc_M_again ⟨rfl, by decide, by decide, by decide⟩ rfl rfl ⟨Nat.le_of_ble_eq_true rfl, Nat.le_of_ble_eq_true rfl⟩ hwM (va_recv hKm hPm (ci := 2) (q0 := 0) rfl rfl) rfl hl.1 rfl (Nat.le_of_ble_eq_true rfl) d_L_law_236 ⟨show cells + 4 + 0 ≤ 601024 from by omega, show slots + 1016 + 0 ≤ 7293034 from by omega⟩) hwM hPz (zD_sw hD) (fun r2 yu H locs h2 hPz hPm hKm hD hS => ?_)
  have hPm : va_P D zcl (mW gm yu) H := hPm
  have hKm : va_K D zcl (mT gm) s := hKm
  have hD : va_D A (mW gm yu ++ ((ao, .inl (co, 1, .inr (.inl uu.2))) :: zW t0 g uu.1)) := zD_sw hD
  have hsm := op_again hRel hbk h1 h2
  refine lv_istore (lv' := [(6, .int r2), (5, .int r1), (0, .ref b), (1, .ref (g_h g)), (2, .ref (n_h gm)), (3, .ref ao), (4, .int (nI (3 * i)))]) hx hb d_L_law_239 hl (by decide) rfl (fun ls hl => ?_)
  refine lv_aload_n hx hb d_L_law_241 rfl (lv_at hl 4 rfl) ?_
  have hwM : zHere D t0 (mT gm) (mW gm yu) A s H locs := ⟨hPm, hKm, zD_l hD, hS, hA, hE⟩
  refine vp_callSi (zrV (n := 0) (As := []) (rest := []) ⟨hx, hb, hml, hown, hk⟩ (c_M_thrown_ok l D t0 gm yu H.size) zk491 zk492 zk493 zk5 kc_M_thrown ⟨rfl, by decide, by decide, by decide⟩ rfl rfl ⟨Nat.le_of_ble_eq_true rfl, Nat.le_of_ble_eq_true rfl⟩ hwM (va_recv hKm hPm (ci := 2) (q0 := 0) rfl rfl) rfl hl.1 rfl (Nat.le_of_ble_eq_true rfl) d_L_law_242 ⟨show cells + 4 + 0 + 0 ≤ 601024 from by omega, show slots + 1016 + 0 + 0 ≤ 7293034 from by omega⟩).run (fun r3 h3 => ?_)
  refine lv_iload hx hb d_L_law_245 (lv_at hl 1 rfl) ?_
  refine lv_icmp_eq (tgt := 252) hx hb d_L_law_247 (by decide) (fun _ => ?_) (fun h9 => absurd (h3.trans hsm.2.1.symm) h9)
  refine lv_iload hx hb d_L_law_252 (lv_at hl 1 rfl) ?_
  refine lv_if_ne (tgt := 269) hx hb d_L_law_254 (by decide) (fun _ => ?_) (fun h0 => ?_)
  · refine lv_goto (tgt := 637) hx hb d_L_law_269 (by decide) ?_
    exact kk uu.1 yu uu.2 H locs _ _ ls ⟨hPz, hPm, hKz, hKm, hD, hS, hsm.1, by have := hsm.2.2.2; omega, by omega, by omega⟩ (lv_sub hl [2, 3, 4, 5, 6] rfl)
  refine lv_aload_n hx hb d_L_law_257 rfl (lv_at hl 5 rfl) ?_
  refine lv_iconst (v := nI 0) hx hb d_L_law_258 (by decide) ?_
  refine va_lald hx hb hKz hPz 0 0 rfl rfl (vp_in_nI (by decide) (by decide)) d_L_law_259 ?_
  refine lv_iload hx hb d_L_law_260 (lv_at hl 0 rfl) ?_
  refine lv_i2l hx hb d_L_law_262 rfl ?_
  refine W.lcmp hx hb d_L_law_263 ?_
  refine lv_if_eq (tgt := 269) hx hb d_L_law_264 (by decide) (fun _ => ?_) (fun h9 => absurd (lw_eq0 (show uu.2 (nI 0).toNatClampNeg = r2.toInt64 from by rw [nI_clamp (by decide)]; exact hsm.2.2.1 h0)) h9)
  refine lv_goto (tgt := 637) hx hb d_L_law_269 (by decide) ?_
  exact kk uu.1 yu uu.2 H locs _ _ ls ⟨hPz, hPm, hKz, hKm, hD, hS, hsm.1, by have := hsm.2.2.2; omega, by omega, by omega⟩ (lv_sub hl [2, 3, 4, 5, 6] rfl)
set_option maxHeartbeats 1000000 in
set_option maxRecDepth 100000 in
theorem lw_kind {p : Program} {l : Launch} {e : Env} {s : State} {m : MethodId} {below : List Frame} {meth : Method} {c : Code} {b L : Nat} {xs : Nat → Int32} {D : va_G} {t0 : Nat} {g : ZG} {gm : MG} {ao : Nat} {co : ClassId} {A : Nat → Prop} {z : ZT} {y : MT} {f : Nat → Int64} {i : Nat} {H : Heap} {locs : List Loc} {cells slots : Nat} {ls : Array Slot} {Q : State → Prop} (hF : lwF p l s m c b L xs t0 A) (hI : lwI D t0 g gm ao co A s z y f i H locs cells slots) (hl : lv_has ls 7 [(0, .ref b), (1, .ref (g_h g)), (2, .ref (n_h gm)), (3, .ref ao), (4, .int (nI (3 * i)))]) (hi : 3 * i + 3 ≤ L)
    (kk : ∀ (z : ZT) (y : MT) (f : Nat → Int64) (H : Heap) (locs : List Loc) (cells slots : Nat) (ls : Array Slot), lwI D t0 g gm ao co A s z y f (i + 1) H locs cells slots → lv_has ls 7 [(0, .ref b), (1, .ref (g_h g)), (2, .ref (n_h gm)), (3, .ref ao), (4, .int (nI (3 * i)))] → W p l e room_1 s m #[Value.ref b] below meth c H locs cells slots Q (F0 m 637 ls [])) : W p l e room_1 s m #[Value.ref b] below meth c H locs cells slots Q (F0 m 272 ls []) := by
  obtain ⟨⟨hx, hb, hml, hown, hk⟩, hX, hbl, hA0, hA, hE, hL, hst⟩ := hF
  obtain ⟨hPz, hPm, hKz, hKm, hD, hS, hRel, hbs, hce, hsl⟩ := hI
  have hz := hRel.1
  have hy := hRel.2.1
  have hbA : ¬ A b := fun h => by have := hA0 b h; omega
  have hbk : m_backs y + 1 < 100000 := by omega
  obtain ⟨v, hv1⟩ : ∃ v : Int32, xs (nI (3 * i + 1)).toNatClampNeg = v := ⟨_, rfl⟩
  refine lv_aload_n hx hb d_L_law_272 rfl (lv_at hl 1 rfl) ?_
  refine lv_aload_n hx hb d_L_law_273 rfl (lv_at hl 0 rfl) ?_
  refine lv_iload hx hb d_L_law_274 (lv_at hl 4 rfl) ?_
  refine lv_iconst (v := nI 1) hx hb d_L_law_276 (by decide) ?_
  refine lv_iadd hx hb d_L_law_277 ?_
  refine zh_t (show (nI (3 * i) + nI 1) = nI ((3 * i) + 1) from nI_add _ _) ?_
  refine va_sld hx hb hX hbl hbA hS (vp_in_nI (by omega) (by omega)) d_L_law_278 ?_
  refine zh_t hv1 ?_
  refine lv_aload_n hx hb d_L_law_279 rfl (lv_at hl 3 rfl) ?_
  have hwZ : zHere D t0 ((co, .long) :: zT g z) ((ao, .inl (co, 1, .inr (.inl f))) :: zW t0 g z) A s H locs := ⟨hPz, hKz, zD_r hD, hS, hA, hE⟩
  refine zciF (zrSW (n := 3) (As := [.ref (g_h g), .int v, .ref ao]) (rest := []) ⟨hx, hb, hml, hown, hk⟩ (c_L_kind_ok l D t0 g z H.size ao co f v hz hst) zk373 zk374 zk0 kc_L_kind ⟨by decide, by decide, by decide⟩ rfl rfl ⟨Nat.le_of_ble_eq_true rfl, Nat.le_of_ble_eq_true rfl⟩ hwZ rfl hl.1 rfl (Nat.le_of_ble_eq_true rfl) d_L_law_280 ⟨show cells + 1 ≤ 601024 from by omega, show slots + 6 ≤ 7293034 from by omega⟩) hwZ hPm hD (fun r1 uu H locs h1 hPm hPz hKz hD hS => ?_)
  have hPz : va_P D zcl ((ao, .inl (co, 1, .inr (.inl uu.2))) :: zW t0 g uu.1) H := hPz
  have hKz : va_K D zcl ((co, .long) :: zT g uu.1) s := hKz
  have hD : va_D A (mW gm y ++ ((ao, .inl (co, 1, .inr (.inl uu.2))) :: zW t0 g uu.1)) := hD
  refine lv_istore (lv' := [(5, .int r1), (0, .ref b), (1, .ref (g_h g)), (2, .ref (n_h gm)), (3, .ref ao), (4, .int (nI (3 * i)))]) hx hb d_L_law_283 hl (by decide) rfl (fun ls hl => ?_)
  refine lv_aload_n hx hb d_L_law_285 rfl (lv_at hl 3 rfl) ?_
  refine lv_aload_n hx hb d_L_law_286 rfl (lv_at hl 1 rfl) ?_
  refine lv_iload hx hb d_L_law_287 (lv_at hl 5 rfl) ?_
  refine lv_iconst (v := nI 1) hx hb d_L_law_289 (by decide) ?_
  refine lv_iadd hx hb d_L_law_290 ?_
  refine zh_t (show (nI (3 * i) + nI 1) = nI ((3 * i) + 1) from nI_add _ _) ?_
  refine va_sld hx hb hX hbl hbA hS (vp_in_nI (by omega) (by omega)) d_L_law_291 ?_
  refine zh_t hv1 ?_
  have hwM : zHere D t0 (mT gm) (mW gm y) A s H locs := ⟨hPm, hKm, zD_l hD, hS, hA, hE⟩
  refine zciF (zrV (n := 1) (As := [.int v]) (rest := []) ⟨hx, hb, hml, hown, hk⟩ (c_M_kind_ok l D t0 gm y H.size v hy) zk534 zk535 zk536 zk5 kc_M_kind ⟨rfl, by decide, by decide, by decide⟩ rfl rfl ⟨Nat.le_of_ble_eq_true rfl, Nat.le_of_ble_eq_true rfl⟩ hwM (va_recv hKm hPm (ci := 2) (q0 := 0) rfl rfl) rfl hl.1 rfl (Nat.le_of_ble_eq_true rfl) d_L_law_292 ⟨show cells + 1 + 0 ≤ 601024 from by omega, show slots + 6 + 0 ≤ 7293034 from by omega⟩) hwM hPz (zD_sw hD) (fun r2 yu H locs h2 hPz hPm hKm hD hS => ?_)
  have hPm : va_P D zcl (mW gm yu) H := hPm
  have hKm : va_K D zcl (mT gm) s := hKm
  have hD : va_D A (mW gm yu ++ ((ao, .inl (co, 1, .inr (.inl uu.2))) :: zW t0 g uu.1)) := zD_sw hD
  have hsm := op_kind hRel h1 h2
  refine lv_istore (lv' := [(6, .int r2), (5, .int r1), (0, .ref b), (1, .ref (g_h g)), (2, .ref (n_h gm)), (3, .ref ao), (4, .int (nI (3 * i)))]) hx hb d_L_law_295 hl (by decide) rfl (fun ls hl => ?_)
  refine lv_aload_n hx hb d_L_law_297 rfl (lv_at hl 4 rfl) ?_
  have hwM : zHere D t0 (mT gm) (mW gm yu) A s H locs := ⟨hPm, hKm, zD_l hD, hS, hA, hE⟩
  refine vp_callSi (zrV (n := 0) (As := []) (rest := []) ⟨hx, hb, hml, hown, hk⟩ (c_M_thrown_ok l D t0 gm yu H.size) zk491 zk492 zk493 zk5 kc_M_thrown ⟨rfl, by decide, by decide, by decide⟩ rfl rfl ⟨Nat.le_of_ble_eq_true rfl, Nat.le_of_ble_eq_true rfl⟩ hwM (va_recv hKm hPm (ci := 2) (q0 := 0) rfl rfl) rfl hl.1 rfl (Nat.le_of_ble_eq_true rfl) d_L_law_298 ⟨show cells + 1 + 0 + 0 ≤ 601024 from by omega, show slots + 6 + 0 + 0 ≤ 7293034 from by omega⟩).run (fun r3 h3 => ?_)
  refine lv_iload hx hb d_L_law_301 (lv_at hl 1 rfl) ?_
  refine lv_icmp_eq (tgt := 308) hx hb d_L_law_303 (by decide) (fun _ => ?_) (fun h9 => absurd (h3.trans hsm.2.1.symm) h9)
  refine lv_iload hx hb d_L_law_308 (lv_at hl 1 rfl) ?_
  refine lv_if_ne (tgt := 325) hx hb d_L_law_310 (by decide) (fun _ => ?_) (fun h0 => ?_)
  · refine lv_goto (tgt := 637) hx hb d_L_law_325 (by decide) ?_
    exact kk uu.1 yu uu.2 H locs _ _ ls ⟨hPz, hPm, hKz, hKm, hD, hS, hsm.1, by have := hsm.2.2.2; omega, by omega, by omega⟩ (lv_sub hl [2, 3, 4, 5, 6] rfl)
  refine lv_aload_n hx hb d_L_law_313 rfl (lv_at hl 5 rfl) ?_
  refine lv_iconst (v := nI 0) hx hb d_L_law_314 (by decide) ?_
  refine va_lald hx hb hKz hPz 0 0 rfl rfl (vp_in_nI (by decide) (by decide)) d_L_law_315 ?_
  refine lv_iload hx hb d_L_law_316 (lv_at hl 0 rfl) ?_
  refine lv_i2l hx hb d_L_law_318 rfl ?_
  refine W.lcmp hx hb d_L_law_319 ?_
  refine lv_if_eq (tgt := 325) hx hb d_L_law_320 (by decide) (fun _ => ?_) (fun h9 => absurd (lw_eq0 (show uu.2 (nI 0).toNatClampNeg = r2.toInt64 from by rw [nI_clamp (by decide)]; exact hsm.2.2.1 h0)) h9)
  refine lv_goto (tgt := 637) hx hb d_L_law_325 (by decide) ?_
  exact kk uu.1 yu uu.2 H locs _ _ ls ⟨hPz, hPm, hKz, hKm, hD, hS, hsm.1, by have := hsm.2.2.2; omega, by omega, by omega⟩ (lv_sub hl [2, 3, 4, 5, 6] rfl)
set_option maxHeartbeats 1000000 in
set_option maxRecDepth 100000 in
theorem lw_block {p : Program} {l : Launch} {e : Env} {s : State} {m : MethodId} {below : List Frame} {meth : Method} {c : Code} {b L : Nat} {xs : Nat → Int32} {D : va_G} {t0 : Nat} {g : ZG} {gm : MG} {ao : Nat} {co : ClassId} {A : Nat → Prop} {z : ZT} {y : MT} {f : Nat → Int64} {i : Nat} {H : Heap} {locs : List Loc} {cells slots : Nat} {ls : Array Slot} {Q : State → Prop} (hF : lwF p l s m c b L xs t0 A) (hI : lwI D t0 g gm ao co A s z y f i H locs cells slots) (hl : lv_has ls 7 [(0, .ref b), (1, .ref (g_h g)), (2, .ref (n_h gm)), (3, .ref ao), (4, .int (nI (3 * i)))]) (hi : 3 * i + 3 ≤ L)
    (kk : ∀ (z : ZT) (y : MT) (f : Nat → Int64) (H : Heap) (locs : List Loc) (cells slots : Nat) (ls : Array Slot), lwI D t0 g gm ao co A s z y f (i + 1) H locs cells slots → lv_has ls 7 [(0, .ref b), (1, .ref (g_h g)), (2, .ref (n_h gm)), (3, .ref ao), (4, .int (nI (3 * i)))] → W p l e room_1 s m #[Value.ref b] below meth c H locs cells slots Q (F0 m 637 ls [])) : W p l e room_1 s m #[Value.ref b] below meth c H locs cells slots Q (F0 m 328 ls []) := by
  obtain ⟨⟨hx, hb, hml, hown, hk⟩, hX, hbl, hA0, hA, hE, hL, hst⟩ := hF
  obtain ⟨hPz, hPm, hKz, hKm, hD, hS, hRel, hbs, hce, hsl⟩ := hI
  have hz := hRel.1
  have hy := hRel.2.1
  have hbA : ¬ A b := fun h => by have := hA0 b h; omega
  have hbk : m_backs y + 1 < 100000 := by omega
  obtain ⟨v, hv1⟩ : ∃ v : Int32, xs (nI (3 * i + 1)).toNatClampNeg = v := ⟨_, rfl⟩
  refine lv_aload_n hx hb d_L_law_328 rfl (lv_at hl 1 rfl) ?_
  refine lv_aload_n hx hb d_L_law_329 rfl (lv_at hl 0 rfl) ?_
  refine lv_iload hx hb d_L_law_330 (lv_at hl 4 rfl) ?_
  refine lv_iconst (v := nI 1) hx hb d_L_law_332 (by decide) ?_
  refine lv_iadd hx hb d_L_law_333 ?_
  refine zh_t (show (nI (3 * i) + nI 1) = nI ((3 * i) + 1) from nI_add _ _) ?_
  refine va_sld hx hb hX hbl hbA hS (vp_in_nI (by omega) (by omega)) d_L_law_334 ?_
  refine zh_t hv1 ?_
  refine lv_aload_n hx hb d_L_law_335 rfl (lv_at hl 3 rfl) ?_
  have hwZ : zHere D t0 ((co, .long) :: zT g z) ((ao, .inl (co, 1, .inr (.inl f))) :: zW t0 g z) A s H locs := ⟨hPz, hKz, zD_r hD, hS, hA, hE⟩
  refine zciF (zrSW (n := 3) (As := [.ref (g_h g), .int v, .ref ao]) (rest := []) ⟨hx, hb, hml, hown, hk⟩ (c_L_block_ok l D t0 g z H.size ao co f v hz hst) zk404 zk405 zk0 kc_L_block ⟨by decide, by decide, by decide⟩ rfl rfl ⟨Nat.le_of_ble_eq_true rfl, Nat.le_of_ble_eq_true rfl⟩ hwZ rfl hl.1 rfl (Nat.le_of_ble_eq_true rfl) d_L_law_336 ⟨show cells + 1 ≤ 601024 from by omega, show slots + 6 ≤ 7293034 from by omega⟩) hwZ hPm hD (fun r1 uu H locs h1 hPm hPz hKz hD hS => ?_)
  have hPz : va_P D zcl ((ao, .inl (co, 1, .inr (.inl uu.2))) :: zW t0 g uu.1) H := hPz
  have hKz : va_K D zcl ((co, .long) :: zT g uu.1) s := hKz
  have hD : va_D A (mW gm y ++ ((ao, .inl (co, 1, .inr (.inl uu.2))) :: zW t0 g uu.1)) := hD
  refine lv_istore (lv' := [(5, .int r1), (0, .ref b), (1, .ref (g_h g)), (2, .ref (n_h gm)), (3, .ref ao), (4, .int (nI (3 * i)))]) hx hb d_L_law_339 hl (by decide) rfl (fun ls hl => ?_)
  refine lv_aload_n hx hb d_L_law_341 rfl (lv_at hl 3 rfl) ?_
  refine lv_aload_n hx hb d_L_law_342 rfl (lv_at hl 1 rfl) ?_
  refine lv_iload hx hb d_L_law_343 (lv_at hl 5 rfl) ?_
  refine lv_iconst (v := nI 1) hx hb d_L_law_345 (by decide) ?_
  refine lv_iadd hx hb d_L_law_346 ?_
  refine zh_t (show (nI (3 * i) + nI 1) = nI ((3 * i) + 1) from nI_add _ _) ?_
  refine va_sld hx hb hX hbl hbA hS (vp_in_nI (by omega) (by omega)) d_L_law_347 ?_
  refine zh_t hv1 ?_
  have hwM : zHere D t0 (mT gm) (mW gm y) A s H locs := ⟨hPm, hKm, zD_l hD, hS, hA, hE⟩
  refine zciF (zrV (n := 1) (As := [.int v]) (rest := []) ⟨hx, hb, hml, hown, hk⟩ (c_M_block_ok l D t0 gm y H.size v hy) zk542 zk543 zk544 zk5 kc_M_block ⟨rfl, by decide, by decide, by decide⟩ rfl rfl ⟨Nat.le_of_ble_eq_true rfl, Nat.le_of_ble_eq_true rfl⟩ hwM (va_recv hKm hPm (ci := 2) (q0 := 0) rfl rfl) rfl hl.1 rfl (Nat.le_of_ble_eq_true rfl) d_L_law_348 ⟨show cells + 1 + 0 ≤ 601024 from by omega, show slots + 6 + 0 ≤ 7293034 from by omega⟩) hwM hPz (zD_sw hD) (fun r2 yu H locs h2 hPz hPm hKm hD hS => ?_)
  have hPm : va_P D zcl (mW gm yu) H := hPm
  have hKm : va_K D zcl (mT gm) s := hKm
  have hD : va_D A (mW gm yu ++ ((ao, .inl (co, 1, .inr (.inl uu.2))) :: zW t0 g uu.1)) := zD_sw hD
  have hsm := op_block hRel h1 h2
  refine lv_istore (lv' := [(6, .int r2), (5, .int r1), (0, .ref b), (1, .ref (g_h g)), (2, .ref (n_h gm)), (3, .ref ao), (4, .int (nI (3 * i)))]) hx hb d_L_law_351 hl (by decide) rfl (fun ls hl => ?_)
  refine lv_aload_n hx hb d_L_law_353 rfl (lv_at hl 4 rfl) ?_
  have hwM : zHere D t0 (mT gm) (mW gm yu) A s H locs := ⟨hPm, hKm, zD_l hD, hS, hA, hE⟩
  refine vp_callSi (zrV (n := 0) (As := []) (rest := []) ⟨hx, hb, hml, hown, hk⟩ (c_M_thrown_ok l D t0 gm yu H.size) zk491 zk492 zk493 zk5 kc_M_thrown ⟨rfl, by decide, by decide, by decide⟩ rfl rfl ⟨Nat.le_of_ble_eq_true rfl, Nat.le_of_ble_eq_true rfl⟩ hwM (va_recv hKm hPm (ci := 2) (q0 := 0) rfl rfl) rfl hl.1 rfl (Nat.le_of_ble_eq_true rfl) d_L_law_354 ⟨show cells + 1 + 0 + 0 ≤ 601024 from by omega, show slots + 6 + 0 + 0 ≤ 7293034 from by omega⟩).run (fun r3 h3 => ?_)
  refine lv_iload hx hb d_L_law_357 (lv_at hl 1 rfl) ?_
  refine lv_icmp_eq (tgt := 364) hx hb d_L_law_359 (by decide) (fun _ => ?_) (fun h9 => absurd (h3.trans hsm.2.1.symm) h9)
  refine lv_iload hx hb d_L_law_364 (lv_at hl 1 rfl) ?_
  refine lv_if_ne (tgt := 381) hx hb d_L_law_366 (by decide) (fun _ => ?_) (fun h0 => ?_)
  · refine lv_goto (tgt := 637) hx hb d_L_law_381 (by decide) ?_
    exact kk uu.1 yu uu.2 H locs _ _ ls ⟨hPz, hPm, hKz, hKm, hD, hS, hsm.1, by have := hsm.2.2.2; omega, by omega, by omega⟩ (lv_sub hl [2, 3, 4, 5, 6] rfl)
  refine lv_aload_n hx hb d_L_law_369 rfl (lv_at hl 5 rfl) ?_
  refine lv_iconst (v := nI 0) hx hb d_L_law_370 (by decide) ?_
  refine va_lald hx hb hKz hPz 0 0 rfl rfl (vp_in_nI (by decide) (by decide)) d_L_law_371 ?_
  refine lv_iload hx hb d_L_law_372 (lv_at hl 0 rfl) ?_
  refine lv_i2l hx hb d_L_law_374 rfl ?_
  refine W.lcmp hx hb d_L_law_375 ?_
  refine lv_if_eq (tgt := 381) hx hb d_L_law_376 (by decide) (fun _ => ?_) (fun h9 => absurd (lw_eq0 (show uu.2 (nI 0).toNatClampNeg = r2.toInt64 from by rw [nI_clamp (by decide)]; exact hsm.2.2.1 h0)) h9)
  refine lv_goto (tgt := 637) hx hb d_L_law_381 (by decide) ?_
  exact kk uu.1 yu uu.2 H locs _ _ ls ⟨hPz, hPm, hKz, hKm, hD, hS, hsm.1, by have := hsm.2.2.2; omega, by omega, by omega⟩ (lv_sub hl [2, 3, 4, 5, 6] rfl)
set_option maxHeartbeats 1000000 in
set_option maxRecDepth 100000 in
theorem lw_write {p : Program} {l : Launch} {e : Env} {s : State} {m : MethodId} {below : List Frame} {meth : Method} {c : Code} {b L : Nat} {xs : Nat → Int32} {D : va_G} {t0 : Nat} {g : ZG} {gm : MG} {ao : Nat} {co : ClassId} {A : Nat → Prop} {z : ZT} {y : MT} {f : Nat → Int64} {i : Nat} {H : Heap} {locs : List Loc} {cells slots : Nat} {ls : Array Slot} {Q : State → Prop} (hF : lwF p l s m c b L xs t0 A) (hI : lwI D t0 g gm ao co A s z y f i H locs cells slots) (hl : lv_has ls 7 [(0, .ref b), (1, .ref (g_h g)), (2, .ref (n_h gm)), (3, .ref ao), (4, .int (nI (3 * i)))]) (hi : 3 * i + 3 ≤ L)
    (kk : ∀ (z : ZT) (y : MT) (f : Nat → Int64) (H : Heap) (locs : List Loc) (cells slots : Nat) (ls : Array Slot), lwI D t0 g gm ao co A s z y f (i + 1) H locs cells slots → lv_has ls 7 [(0, .ref b), (1, .ref (g_h g)), (2, .ref (n_h gm)), (3, .ref ao), (4, .int (nI (3 * i)))] → W p l e room_1 s m #[Value.ref b] below meth c H locs cells slots Q (F0 m 637 ls [])) : W p l e room_1 s m #[Value.ref b] below meth c H locs cells slots Q (F0 m 384 ls []) := by
  obtain ⟨⟨hx, hb, hml, hown, hk⟩, hX, hbl, hA0, hA, hE, hL, hst⟩ := hF
  obtain ⟨hPz, hPm, hKz, hKm, hD, hS, hRel, hbs, hce, hsl⟩ := hI
  have hz := hRel.1
  have hy := hRel.2.1
  have hbA : ¬ A b := fun h => by have := hA0 b h; omega
  have hbk : m_backs y + 1 < 100000 := by omega
  obtain ⟨v, hv1⟩ : ∃ v : Int32, xs (nI (3 * i + 1)).toNatClampNeg = v := ⟨_, rfl⟩
  obtain ⟨v2, hv2⟩ : ∃ v : Int32, xs (nI (3 * i + 2)).toNatClampNeg = v := ⟨_, rfl⟩
  refine lv_aload_n hx hb d_L_law_384 rfl (lv_at hl 1 rfl) ?_
  refine lv_aload_n hx hb d_L_law_385 rfl (lv_at hl 0 rfl) ?_
  refine lv_iload hx hb d_L_law_386 (lv_at hl 4 rfl) ?_
  refine lv_iconst (v := nI 1) hx hb d_L_law_388 (by decide) ?_
  refine lv_iadd hx hb d_L_law_389 ?_
  refine zh_t (show (nI (3 * i) + nI 1) = nI ((3 * i) + 1) from nI_add _ _) ?_
  refine va_sld hx hb hX hbl hbA hS (vp_in_nI (by omega) (by omega)) d_L_law_390 ?_
  refine zh_t hv1 ?_
  refine lv_aload_n hx hb d_L_law_391 rfl (lv_at hl 0 rfl) ?_
  refine lv_iload hx hb d_L_law_392 (lv_at hl 4 rfl) ?_
  refine lv_iconst (v := nI 2) hx hb d_L_law_394 (by decide) ?_
  refine lv_iadd hx hb d_L_law_395 ?_
  refine zh_t (show (nI (3 * i) + nI 2) = nI ((3 * i) + 2) from nI_add _ _) ?_
  refine va_sld hx hb hX hbl hbA hS (vp_in_nI (by omega) (by omega)) d_L_law_396 ?_
  refine zh_t hv2 ?_
  have hwZ : zHere D t0 ((co, .long) :: zT g z) ((ao, .inl (co, 1, .inr (.inl f))) :: zW t0 g z) A s H locs := ⟨hPz, hKz, zD_r hD, hS, hA, hE⟩
  refine zciF (zrSW (n := 3) (As := [.ref (g_h g), .int v, .int v2]) (rest := []) ⟨hx, hb, hml, hown, hk⟩ (c_L_write_ok l D t0 g z H.size ao co f v v2 hz hst) zk411 zk412 zk0 kc_L_write ⟨by decide, by decide, by decide⟩ rfl rfl ⟨Nat.le_of_ble_eq_true rfl, Nat.le_of_ble_eq_true rfl⟩ hwZ rfl hl.1 rfl (Nat.le_of_ble_eq_true rfl) d_L_law_397 ⟨show cells + 1 ≤ 601024 from by omega, show slots + 6 ≤ 7293034 from by omega⟩) hwZ hPm hD (fun r1 uu H locs h1 hPm hPz hKz hD hS => ?_)
  have hPz : va_P D zcl ((ao, .inl (co, 1, .inr (.inl uu.2))) :: zW t0 g uu.1) H := hPz
  have hKz : va_K D zcl ((co, .long) :: zT g uu.1) s := hKz
  have hD : va_D A (mW gm y ++ ((ao, .inl (co, 1, .inr (.inl uu.2))) :: zW t0 g uu.1)) := hD
  refine lv_istore (lv' := [(5, .int r1), (0, .ref b), (1, .ref (g_h g)), (2, .ref (n_h gm)), (3, .ref ao), (4, .int (nI (3 * i)))]) hx hb d_L_law_400 hl (by decide) rfl (fun ls hl => ?_)
  refine lv_aload_n hx hb d_L_law_402 rfl (lv_at hl 3 rfl) ?_
  refine lv_aload_n hx hb d_L_law_403 rfl (lv_at hl 1 rfl) ?_
  refine lv_iload hx hb d_L_law_404 (lv_at hl 5 rfl) ?_
  refine lv_iconst (v := nI 1) hx hb d_L_law_406 (by decide) ?_
  refine lv_iadd hx hb d_L_law_407 ?_
  refine zh_t (show (nI (3 * i) + nI 1) = nI ((3 * i) + 1) from nI_add _ _) ?_
  refine va_sld hx hb hX hbl hbA hS (vp_in_nI (by omega) (by omega)) d_L_law_408 ?_
  refine zh_t hv1 ?_
  refine lv_aload_n hx hb d_L_law_409 rfl (lv_at hl 1 rfl) ?_
  refine lv_iload hx hb d_L_law_410 (lv_at hl 5 rfl) ?_
  refine lv_iconst (v := nI 2) hx hb d_L_law_412 (by decide) ?_
  refine lv_iadd hx hb d_L_law_413 ?_
  refine zh_t (show (nI (3 * i) + nI 2) = nI ((3 * i) + 2) from nI_add _ _) ?_
  refine va_sld hx hb hX hbl hbA hS (vp_in_nI (by omega) (by omega)) d_L_law_414 ?_
  refine zh_t hv2 ?_
  have hwM : zHere D t0 (mT gm) (mW gm y) A s H locs := ⟨hPm, hKm, zD_l hD, hS, hA, hE⟩
  refine zcvF (zrV (n := 2) (As := [.int v, .int v2]) (rest := []) ⟨hx, hb, hml, hown, hk⟩ (c_M_write_ok l D t0 gm y H.size v v2 hy) zk546 zk547 zk548 zk5 kc_M_write ⟨rfl, by decide, by decide, by decide⟩ rfl rfl ⟨Nat.le_of_ble_eq_true rfl, Nat.le_of_ble_eq_true rfl⟩ hwM (va_recv hKm hPm (ci := 2) (q0 := 0) rfl rfl) rfl hl.1 rfl (Nat.le_of_ble_eq_true rfl) d_L_law_415 ⟨show cells + 1 + 0 ≤ 601024 from by omega, show slots + 6 + 0 ≤ 7293034 from by omega⟩) hwM hPz (zD_sw hD) (fun yu H locs h2 hPz hPm hKm hD hS => ?_)
  have hPm : va_P D zcl (mW gm yu) H := hPm
  have hKm : va_K D zcl (mT gm) s := hKm
  have hD : va_D A (mW gm yu ++ ((ao, .inl (co, 1, .inr (.inl uu.2))) :: zW t0 g uu.1)) := zD_sw hD
  have hsm := op_write hRel h1 h2
  refine lv_aload_n hx hb d_L_law_418 rfl (lv_at hl 3 rfl) ?_
  have hwM : zHere D t0 (mT gm) (mW gm yu) A s H locs := ⟨hPm, hKm, zD_l hD, hS, hA, hE⟩
  refine vp_callSi (zrV (n := 0) (As := []) (rest := []) ⟨hx, hb, hml, hown, hk⟩ (c_M_thrown_ok l D t0 gm yu H.size) zk491 zk492 zk493 zk5 kc_M_thrown ⟨rfl, by decide, by decide, by decide⟩ rfl rfl ⟨Nat.le_of_ble_eq_true rfl, Nat.le_of_ble_eq_true rfl⟩ hwM (va_recv hKm hPm (ci := 2) (q0 := 0) rfl rfl) rfl hl.1 rfl (Nat.le_of_ble_eq_true rfl) d_L_law_419 ⟨show cells + 1 + 0 + 0 ≤ 601024 from by omega, show slots + 6 + 0 + 0 ≤ 7293034 from by omega⟩).run (fun r3 h3 => ?_)
  refine lv_iload hx hb d_L_law_422 (lv_at hl 0 rfl) ?_
  refine lv_icmp_eq (tgt := 429) hx hb d_L_law_424 (by decide) (fun _ => ?_) (fun h9 => absurd (h3.trans hsm.2.1.symm) h9)
  refine lv_goto (tgt := 637) hx hb d_L_law_429 (by decide) ?_
  exact kk uu.1 yu uu.2 H locs _ _ ls ⟨hPz, hPm, hKz, hKm, hD, hS, hsm.1, by have := hsm.2.2; omega, by omega, by omega⟩ (lv_sub hl [1, 2, 3, 4, 5] rfl)
set_option maxHeartbeats 1000000 in
set_option maxRecDepth 100000 in
theorem lw_read {p : Program} {l : Launch} {e : Env} {s : State} {m : MethodId} {below : List Frame} {meth : Method} {c : Code} {b L : Nat} {xs : Nat → Int32} {D : va_G} {t0 : Nat} {g : ZG} {gm : MG} {ao : Nat} {co : ClassId} {A : Nat → Prop} {z : ZT} {y : MT} {f : Nat → Int64} {i : Nat} {H : Heap} {locs : List Loc} {cells slots : Nat} {ls : Array Slot} {Q : State → Prop} (hF : lwF p l s m c b L xs t0 A) (hI : lwI D t0 g gm ao co A s z y f i H locs cells slots) (hl : lv_has ls 7 [(0, .ref b), (1, .ref (g_h g)), (2, .ref (n_h gm)), (3, .ref ao), (4, .int (nI (3 * i)))]) (hi : 3 * i + 3 ≤ L)
    (kk : ∀ (z : ZT) (y : MT) (f : Nat → Int64) (H : Heap) (locs : List Loc) (cells slots : Nat) (ls : Array Slot), lwI D t0 g gm ao co A s z y f (i + 1) H locs cells slots → lv_has ls 7 [(0, .ref b), (1, .ref (g_h g)), (2, .ref (n_h gm)), (3, .ref ao), (4, .int (nI (3 * i)))] → W p l e room_1 s m #[Value.ref b] below meth c H locs cells slots Q (F0 m 637 ls [])) : W p l e room_1 s m #[Value.ref b] below meth c H locs cells slots Q (F0 m 432 ls []) := by
  obtain ⟨⟨hx, hb, hml, hown, hk⟩, hX, hbl, hA0, hA, hE, hL, hst⟩ := hF
  obtain ⟨hPz, hPm, hKz, hKm, hD, hS, hRel, hbs, hce, hsl⟩ := hI
  have hz := hRel.1
  have hy := hRel.2.1
  have hbA : ¬ A b := fun h => by have := hA0 b h; omega
  have hbk : m_backs y + 1 < 100000 := by omega
  obtain ⟨v, hv1⟩ : ∃ v : Int32, xs (nI (3 * i + 1)).toNatClampNeg = v := ⟨_, rfl⟩
  refine lv_aload_n hx hb d_L_law_432 rfl (lv_at hl 1 rfl) ?_
  refine lv_aload_n hx hb d_L_law_433 rfl (lv_at hl 0 rfl) ?_
  refine lv_iload hx hb d_L_law_434 (lv_at hl 4 rfl) ?_
  refine lv_iconst (v := nI 1) hx hb d_L_law_436 (by decide) ?_
  refine lv_iadd hx hb d_L_law_437 ?_
  refine zh_t (show (nI (3 * i) + nI 1) = nI ((3 * i) + 1) from nI_add _ _) ?_
  refine va_sld hx hb hX hbl hbA hS (vp_in_nI (by omega) (by omega)) d_L_law_438 ?_
  refine zh_t hv1 ?_
  refine lv_aload_n hx hb d_L_law_439 rfl (lv_at hl 3 rfl) ?_
  have hwZ : zHere D t0 ((co, .long) :: zT g z) ((ao, .inl (co, 1, .inr (.inl f))) :: zW t0 g z) A s H locs := ⟨hPz, hKz, zD_r hD, hS, hA, hE⟩
  refine zciF (zrSW (n := 3) (As := [.ref (g_h g), .int v, .ref ao]) (rest := []) ⟨hx, hb, hml, hown, hk⟩ (c_L_read_ok l D t0 g z H.size ao co f v hz hst) zk424 zk425 zk0 kc_L_read ⟨by decide, by decide, by decide⟩ rfl rfl ⟨Nat.le_of_ble_eq_true rfl, Nat.le_of_ble_eq_true rfl⟩ hwZ rfl hl.1 rfl (Nat.le_of_ble_eq_true rfl) d_L_law_440 ⟨show cells + 1 ≤ 601024 from by omega, show slots + 6 ≤ 7293034 from by omega⟩) hwZ hPm hD (fun r1 uu H locs h1 hPm hPz hKz hD hS => ?_)
  have hPz : va_P D zcl ((ao, .inl (co, 1, .inr (.inl uu.2))) :: zW t0 g uu.1) H := hPz
  have hKz : va_K D zcl ((co, .long) :: zT g uu.1) s := hKz
  have hD : va_D A (mW gm y ++ ((ao, .inl (co, 1, .inr (.inl uu.2))) :: zW t0 g uu.1)) := hD
  refine lv_istore (lv' := [(5, .int r1), (0, .ref b), (1, .ref (g_h g)), (2, .ref (n_h gm)), (3, .ref ao), (4, .int (nI (3 * i)))]) hx hb d_L_law_443 hl (by decide) rfl (fun ls hl => ?_)
  refine lv_aload_n hx hb d_L_law_445 rfl (lv_at hl 3 rfl) ?_
  refine lv_aload_n hx hb d_L_law_446 rfl (lv_at hl 1 rfl) ?_
  refine lv_iload hx hb d_L_law_447 (lv_at hl 5 rfl) ?_
  refine lv_iconst (v := nI 1) hx hb d_L_law_449 (by decide) ?_
  refine lv_iadd hx hb d_L_law_450 ?_
  refine zh_t (show (nI (3 * i) + nI 1) = nI ((3 * i) + 1) from nI_add _ _) ?_
  refine va_sld hx hb hX hbl hbA hS (vp_in_nI (by omega) (by omega)) d_L_law_451 ?_
  refine zh_t hv1 ?_
  have hwM : zHere D t0 (mT gm) (mW gm y) A s H locs := ⟨hPm, hKm, zD_l hD, hS, hA, hE⟩
  refine zciF (zrV (n := 1) (As := [.int v]) (rest := []) ⟨hx, hb, hml, hown, hk⟩ (c_M_read_ok l D t0 gm y H.size v hy) zk554 zk555 zk556 zk5 kc_M_read ⟨rfl, by decide, by decide, by decide⟩ rfl rfl ⟨Nat.le_of_ble_eq_true rfl, Nat.le_of_ble_eq_true rfl⟩ hwM (va_recv hKm hPm (ci := 2) (q0 := 0) rfl rfl) rfl hl.1 rfl (Nat.le_of_ble_eq_true rfl) d_L_law_452 ⟨show cells + 1 + 0 ≤ 601024 from by omega, show slots + 6 + 0 ≤ 7293034 from by omega⟩) hwM hPz (zD_sw hD) (fun r2 yu H locs h2 hPz hPm hKm hD hS => ?_)
  have hPm : va_P D zcl (mW gm yu) H := hPm
  have hKm : va_K D zcl (mT gm) s := hKm
  have hD : va_D A (mW gm yu ++ ((ao, .inl (co, 1, .inr (.inl uu.2))) :: zW t0 g uu.1)) := zD_sw hD
  have hsm := op_read hRel h1 h2
  refine lv_istore (lv' := [(6, .int r2), (5, .int r1), (0, .ref b), (1, .ref (g_h g)), (2, .ref (n_h gm)), (3, .ref ao), (4, .int (nI (3 * i)))]) hx hb d_L_law_455 hl (by decide) rfl (fun ls hl => ?_)
  refine lv_aload_n hx hb d_L_law_457 rfl (lv_at hl 4 rfl) ?_
  have hwM : zHere D t0 (mT gm) (mW gm yu) A s H locs := ⟨hPm, hKm, zD_l hD, hS, hA, hE⟩
  refine vp_callSi (zrV (n := 0) (As := []) (rest := []) ⟨hx, hb, hml, hown, hk⟩ (c_M_thrown_ok l D t0 gm yu H.size) zk491 zk492 zk493 zk5 kc_M_thrown ⟨rfl, by decide, by decide, by decide⟩ rfl rfl ⟨Nat.le_of_ble_eq_true rfl, Nat.le_of_ble_eq_true rfl⟩ hwM (va_recv hKm hPm (ci := 2) (q0 := 0) rfl rfl) rfl hl.1 rfl (Nat.le_of_ble_eq_true rfl) d_L_law_458 ⟨show cells + 1 + 0 + 0 ≤ 601024 from by omega, show slots + 6 + 0 + 0 ≤ 7293034 from by omega⟩).run (fun r3 h3 => ?_)
  refine lv_iload hx hb d_L_law_461 (lv_at hl 1 rfl) ?_
  refine lv_icmp_eq (tgt := 468) hx hb d_L_law_463 (by decide) (fun _ => ?_) (fun h9 => absurd (h3.trans hsm.2.1.symm) h9)
  refine lv_iload hx hb d_L_law_468 (lv_at hl 1 rfl) ?_
  refine lv_if_ne (tgt := 485) hx hb d_L_law_470 (by decide) (fun _ => ?_) (fun h0 => ?_)
  · refine lv_goto (tgt := 637) hx hb d_L_law_485 (by decide) ?_
    exact kk uu.1 yu uu.2 H locs _ _ ls ⟨hPz, hPm, hKz, hKm, hD, hS, hsm.1, by have := hsm.2.2.2; omega, by omega, by omega⟩ (lv_sub hl [2, 3, 4, 5, 6] rfl)
  refine lv_aload_n hx hb d_L_law_473 rfl (lv_at hl 5 rfl) ?_
  refine lv_iconst (v := nI 0) hx hb d_L_law_474 (by decide) ?_
  refine va_lald hx hb hKz hPz 0 0 rfl rfl (vp_in_nI (by decide) (by decide)) d_L_law_475 ?_
  refine lv_iload hx hb d_L_law_476 (lv_at hl 0 rfl) ?_
  refine lv_i2l hx hb d_L_law_478 rfl ?_
  refine W.lcmp hx hb d_L_law_479 ?_
  refine lv_if_eq (tgt := 485) hx hb d_L_law_480 (by decide) (fun _ => ?_) (fun h9 => absurd (lw_eq0 (show uu.2 (nI 0).toNatClampNeg = r2.toInt64 from by rw [nI_clamp (by decide)]; exact hsm.2.2.1 h0)) h9)
  refine lv_goto (tgt := 637) hx hb d_L_law_485 (by decide) ?_
  exact kk uu.1 yu uu.2 H locs _ _ ls ⟨hPz, hPm, hKz, hKm, hD, hS, hsm.1, by have := hsm.2.2.2; omega, by omega, by omega⟩ (lv_sub hl [2, 3, 4, 5, 6] rfl)
set_option maxHeartbeats 1000000 in
set_option maxRecDepth 100000 in
theorem lw_lost {p : Program} {l : Launch} {e : Env} {s : State} {m : MethodId} {below : List Frame} {meth : Method} {c : Code} {b L : Nat} {xs : Nat → Int32} {D : va_G} {t0 : Nat} {g : ZG} {gm : MG} {ao : Nat} {co : ClassId} {A : Nat → Prop} {z : ZT} {y : MT} {f : Nat → Int64} {i : Nat} {H : Heap} {locs : List Loc} {cells slots : Nat} {ls : Array Slot} {Q : State → Prop} (hF : lwF p l s m c b L xs t0 A) (hI : lwI D t0 g gm ao co A s z y f i H locs cells slots) (hl : lv_has ls 7 [(0, .ref b), (1, .ref (g_h g)), (2, .ref (n_h gm)), (3, .ref ao), (4, .int (nI (3 * i)))]) (hi : 3 * i + 3 ≤ L)
    (kk : ∀ (z : ZT) (y : MT) (f : Nat → Int64) (H : Heap) (locs : List Loc) (cells slots : Nat) (ls : Array Slot), lwI D t0 g gm ao co A s z y f (i + 1) H locs cells slots → lv_has ls 7 [(0, .ref b), (1, .ref (g_h g)), (2, .ref (n_h gm)), (3, .ref ao), (4, .int (nI (3 * i)))] → W p l e room_1 s m #[Value.ref b] below meth c H locs cells slots Q (F0 m 637 ls [])) : W p l e room_1 s m #[Value.ref b] below meth c H locs cells slots Q (F0 m 488 ls []) := by
  obtain ⟨⟨hx, hb, hml, hown, hk⟩, hX, hbl, hA0, hA, hE, hL, hst⟩ := hF
  obtain ⟨hPz, hPm, hKz, hKm, hD, hS, hRel, hbs, hce, hsl⟩ := hI
  have hz := hRel.1
  have hy := hRel.2.1
  have hbA : ¬ A b := fun h => by have := hA0 b h; omega
  have hbk : m_backs y + 1 < 100000 := by omega
  obtain ⟨v, hv1⟩ : ∃ v : Int32, xs (nI (3 * i + 1)).toNatClampNeg = v := ⟨_, rfl⟩
  obtain ⟨v2, hv2⟩ : ∃ v : Int32, xs (nI (3 * i + 2)).toNatClampNeg = v := ⟨_, rfl⟩
  refine lv_aload_n hx hb d_L_law_488 rfl (lv_at hl 1 rfl) ?_
  refine lv_aload_n hx hb d_L_law_489 rfl (lv_at hl 0 rfl) ?_
  refine lv_iload hx hb d_L_law_490 (lv_at hl 4 rfl) ?_
  refine lv_iconst (v := nI 1) hx hb d_L_law_492 (by decide) ?_
  refine lv_iadd hx hb d_L_law_493 ?_
  refine zh_t (show (nI (3 * i) + nI 1) = nI ((3 * i) + 1) from nI_add _ _) ?_
  refine va_sld hx hb hX hbl hbA hS (vp_in_nI (by omega) (by omega)) d_L_law_494 ?_
  refine zh_t hv1 ?_
  refine lv_aload_n hx hb d_L_law_495 rfl (lv_at hl 0 rfl) ?_
  refine lv_iload hx hb d_L_law_496 (lv_at hl 4 rfl) ?_
  refine lv_iconst (v := nI 2) hx hb d_L_law_498 (by decide) ?_
  refine lv_iadd hx hb d_L_law_499 ?_
  refine zh_t (show (nI (3 * i) + nI 2) = nI ((3 * i) + 2) from nI_add _ _) ?_
  refine va_sld hx hb hX hbl hbA hS (vp_in_nI (by omega) (by omega)) d_L_law_500 ?_
  refine zh_t hv2 ?_
  have hPo : va_P D zcl [(ao, .inl (co, 1, .inr (.inl f)))] H := zP_l (r := [(ao, .inl (co, 1, .inr (.inl f)))]) hPz
  have hPx : va_P D zcl (zW t0 g z) H := zP_r (r := [(ao, .inl (co, 1, .inr (.inl f)))]) hPz
  have hKo : va_K D zcl [(co, .long)] s := hKz.sub [0] rfl
  have hKx : va_K D zcl (zT g z) s := ⟨hKz.1, fun k9 q9 h9 => hKz.2 (k9 + 1) q9 h9⟩
  have hD : va_D A ((mW gm y ++ [(ao, .inl (co, 1, .inr (.inl f)))]) ++ zW t0 g z) := by rw [List.append_assoc]; exact hD
  have hwZ : zHere D t0 (zT g z) (zW t0 g z) A s H locs := ⟨hPx, hKx, zD_r hD, hS, hA, hE⟩
  refine zciF (zrV (n := 2) (As := [.int v, .int v2]) (rest := []) ⟨hx, hb, hml, hown, hk⟩ (c_Z_lost_ok l D t0 g z H.size v v2 hz) zk91 zk92 zk93 zk1 kc_Z_lost ⟨rfl, by decide, by decide, by decide⟩ rfl rfl ⟨Nat.le_of_ble_eq_true rfl, Nat.le_of_ble_eq_true rfl⟩ hwZ (va_recv hKx hPx (ci := 0) (q0 := 0) rfl rfl) rfl hl.1 rfl (Nat.le_of_ble_eq_true rfl) d_L_law_501 ⟨show cells + 0 ≤ 601024 from by omega, show slots + 0 ≤ 7293034 from by omega⟩) hwZ (zP_app hPm hPo) hD (fun r1 uz H locs h1 hPr hPx hKx hD hS => ?_)
  have hPz : va_P D zcl ((ao, .inl (co, 1, .inr (.inl f))) :: zW t0 g uz) H := zP_app (r := [(ao, .inl (co, 1, .inr (.inl f)))]) (zP_r hPr) hPx
  have hPm : va_P D zcl (mW gm y) H := zP_l hPr
  have hKz : va_K D zcl ((co, .long) :: zT g uz) s := hKo.app hKx
  have hD : va_D A (mW gm y ++ ((ao, .inl (co, 1, .inr (.inl f))) :: zW t0 g uz)) := by have h9 : va_D A ((mW gm y ++ [(ao, .inl (co, 1, .inr (.inl f)))]) ++ zW t0 g uz) := hD; rw [List.append_assoc] at h9; exact h9
  refine lv_aload_n hx hb d_L_law_504 rfl (lv_at hl 2 rfl) ?_
  refine lv_aload_n hx hb d_L_law_505 rfl (lv_at hl 0 rfl) ?_
  refine lv_iload hx hb d_L_law_506 (lv_at hl 4 rfl) ?_
  refine lv_iconst (v := nI 1) hx hb d_L_law_508 (by decide) ?_
  refine lv_iadd hx hb d_L_law_509 ?_
  refine zh_t (show (nI (3 * i) + nI 1) = nI ((3 * i) + 1) from nI_add _ _) ?_
  refine va_sld hx hb hX hbl hbA hS (vp_in_nI (by omega) (by omega)) d_L_law_510 ?_
  refine zh_t hv1 ?_
  refine lv_aload_n hx hb d_L_law_511 rfl (lv_at hl 0 rfl) ?_
  refine lv_iload hx hb d_L_law_512 (lv_at hl 4 rfl) ?_
  refine lv_iconst (v := nI 2) hx hb d_L_law_514 (by decide) ?_
  refine lv_iadd hx hb d_L_law_515 ?_
  refine zh_t (show (nI (3 * i) + nI 2) = nI ((3 * i) + 2) from nI_add _ _) ?_
  refine va_sld hx hb hX hbl hbA hS (vp_in_nI (by omega) (by omega)) d_L_law_516 ?_
  refine zh_t hv2 ?_
  have hwM : zHere D t0 (mT gm) (mW gm y) A s H locs := ⟨hPm, hKm, zD_l hD, hS, hA, hE⟩
  refine zciF (zrV (n := 2) (As := [.int v, .int v2]) (rest := [.int r1]) ⟨hx, hb, hml, hown, hk⟩ (c_M_lost_ok l D t0 gm y H.size v v2 hy) zk562 zk563 zk564 zk5 kc_M_lost ⟨rfl, by decide, by decide, by decide⟩ rfl rfl ⟨Nat.le_of_ble_eq_true rfl, Nat.le_of_ble_eq_true rfl⟩ hwM (va_recv hKm hPm (ci := 2) (q0 := 0) rfl rfl) rfl hl.1 rfl (Nat.le_of_ble_eq_true rfl) d_L_law_517 ⟨show cells + 0 + 0 ≤ 601024 from by omega, show slots + 0 + 0 ≤ 7293034 from by omega⟩) hwM hPz (zD_sw hD) (fun r2 yu H locs h2 hPz hPm hKm hD hS => ?_)
  have hPm : va_P D zcl (mW gm yu) H := hPm
  have hKm : va_K D zcl (mT gm) s := hKm
  have hD : va_D A (mW gm yu ++ ((ao, .inl (co, 1, .inr (.inl f))) :: zW t0 g uz)) := zD_sw hD
  have hsm := op_lost hRel h1 h2
  refine lv_icmp_eq (tgt := 637) hx hb d_L_law_520 (by decide) (fun _ => ?_) (fun h9 => absurd hsm.2.1 h9)
  exact kk uz yu f H locs _ _ ls ⟨hPz, hPm, hKz, hKm, hD, hS, hsm.1, by have := hsm.2.2; omega, by omega, by omega⟩ (lv_sub hl [0, 1, 2, 3, 4] rfl)
set_option maxHeartbeats 1000000 in
set_option maxRecDepth 100000 in
theorem lw_lostAt {p : Program} {l : Launch} {e : Env} {s : State} {m : MethodId} {below : List Frame} {meth : Method} {c : Code} {b L : Nat} {xs : Nat → Int32} {D : va_G} {t0 : Nat} {g : ZG} {gm : MG} {ao : Nat} {co : ClassId} {A : Nat → Prop} {z : ZT} {y : MT} {f : Nat → Int64} {i : Nat} {H : Heap} {locs : List Loc} {cells slots : Nat} {ls : Array Slot} {Q : State → Prop} (hF : lwF p l s m c b L xs t0 A) (hI : lwI D t0 g gm ao co A s z y f i H locs cells slots) (hl : lv_has ls 7 [(0, .ref b), (1, .ref (g_h g)), (2, .ref (n_h gm)), (3, .ref ao), (4, .int (nI (3 * i)))]) (hi : 3 * i + 3 ≤ L)
    (kk : ∀ (z : ZT) (y : MT) (f : Nat → Int64) (H : Heap) (locs : List Loc) (cells slots : Nat) (ls : Array Slot), lwI D t0 g gm ao co A s z y f (i + 1) H locs cells slots → lv_has ls 7 [(0, .ref b), (1, .ref (g_h g)), (2, .ref (n_h gm)), (3, .ref ao), (4, .int (nI (3 * i)))] → W p l e room_1 s m #[Value.ref b] below meth c H locs cells slots Q (F0 m 637 ls [])) : W p l e room_1 s m #[Value.ref b] below meth c H locs cells slots Q (F0 m 525 ls []) := by
  obtain ⟨⟨hx, hb, hml, hown, hk⟩, hX, hbl, hA0, hA, hE, hL, hst⟩ := hF
  obtain ⟨hPz, hPm, hKz, hKm, hD, hS, hRel, hbs, hce, hsl⟩ := hI
  have hz := hRel.1
  have hy := hRel.2.1
  have hbA : ¬ A b := fun h => by have := hA0 b h; omega
  have hbk : m_backs y + 1 < 100000 := by omega
  obtain ⟨v, hv1⟩ : ∃ v : Int32, xs (nI (3 * i + 1)).toNatClampNeg = v := ⟨_, rfl⟩
  refine lv_aload_n hx hb d_L_law_525 rfl (lv_at hl 1 rfl) ?_
  refine lv_aload_n hx hb d_L_law_526 rfl (lv_at hl 0 rfl) ?_
  refine lv_iload hx hb d_L_law_527 (lv_at hl 4 rfl) ?_
  refine lv_iconst (v := nI 1) hx hb d_L_law_529 (by decide) ?_
  refine lv_iadd hx hb d_L_law_530 ?_
  refine zh_t (show (nI (3 * i) + nI 1) = nI ((3 * i) + 1) from nI_add _ _) ?_
  refine va_sld hx hb hX hbl hbA hS (vp_in_nI (by omega) (by omega)) d_L_law_531 ?_
  refine zh_t hv1 ?_
  refine lv_aload_n hx hb d_L_law_532 rfl (lv_at hl 3 rfl) ?_
  have hwZ : zHere D t0 ((co, .long) :: zT g z) ((ao, .inl (co, 1, .inr (.inl f))) :: zW t0 g z) A s H locs := ⟨hPz, hKz, zD_r hD, hS, hA, hE⟩
  refine zciF (zrSW (n := 3) (As := [.ref (g_h g), .int v, .ref ao]) (rest := []) ⟨hx, hb, hml, hown, hk⟩ (c_L_lostAt_ok l D t0 g z H.size ao co f v hz hst) zk431 zk432 zk0 kc_L_lostAt ⟨by decide, by decide, by decide⟩ rfl rfl ⟨Nat.le_of_ble_eq_true rfl, Nat.le_of_ble_eq_true rfl⟩ hwZ rfl hl.1 rfl (Nat.le_of_ble_eq_true rfl) d_L_law_533 ⟨show cells + 1 ≤ 601024 from by omega, show slots + 6 ≤ 7293034 from by omega⟩) hwZ hPm hD (fun r1 uu H locs h1 hPm hPz hKz hD hS => ?_)
  have hPz : va_P D zcl ((ao, .inl (co, 1, .inr (.inl uu.2))) :: zW t0 g uu.1) H := hPz
  have hKz : va_K D zcl ((co, .long) :: zT g uu.1) s := hKz
  have hD : va_D A (mW gm y ++ ((ao, .inl (co, 1, .inr (.inl uu.2))) :: zW t0 g uu.1)) := hD
  refine lv_istore (lv' := [(5, .int r1), (0, .ref b), (1, .ref (g_h g)), (2, .ref (n_h gm)), (3, .ref ao), (4, .int (nI (3 * i)))]) hx hb d_L_law_536 hl (by decide) rfl (fun ls hl => ?_)
  refine lv_aload_n hx hb d_L_law_538 rfl (lv_at hl 3 rfl) ?_
  refine lv_aload_n hx hb d_L_law_539 rfl (lv_at hl 1 rfl) ?_
  refine lv_iload hx hb d_L_law_540 (lv_at hl 5 rfl) ?_
  refine lv_iconst (v := nI 1) hx hb d_L_law_542 (by decide) ?_
  refine lv_iadd hx hb d_L_law_543 ?_
  refine zh_t (show (nI (3 * i) + nI 1) = nI ((3 * i) + 1) from nI_add _ _) ?_
  refine va_sld hx hb hX hbl hbA hS (vp_in_nI (by omega) (by omega)) d_L_law_544 ?_
  refine zh_t hv1 ?_
  have hwM : zHere D t0 (mT gm) (mW gm y) A s H locs := ⟨hPm, hKm, zD_l hD, hS, hA, hE⟩
  refine zciF (zrV (n := 1) (As := [.int v]) (rest := []) ⟨hx, hb, hml, hown, hk⟩ (c_M_lostAt_ok l D t0 gm y H.size v hy) zk574 zk575 zk576 zk5 kc_M_lostAt ⟨rfl, by decide, by decide, by decide⟩ rfl rfl ⟨Nat.le_of_ble_eq_true rfl, Nat.le_of_ble_eq_true rfl⟩ hwM (va_recv hKm hPm (ci := 2) (q0 := 0) rfl rfl) rfl hl.1 rfl (Nat.le_of_ble_eq_true rfl) d_L_law_545 ⟨show cells + 1 + 0 ≤ 601024 from by omega, show slots + 6 + 0 ≤ 7293034 from by omega⟩) hwM hPz (zD_sw hD) (fun r2 yu H locs h2 hPz hPm hKm hD hS => ?_)
  have hPm : va_P D zcl (mW gm yu) H := hPm
  have hKm : va_K D zcl (mT gm) s := hKm
  have hD : va_D A (mW gm yu ++ ((ao, .inl (co, 1, .inr (.inl uu.2))) :: zW t0 g uu.1)) := zD_sw hD
  have hsm := op_lostAt hRel h1 h2
  refine lv_istore (lv' := [(6, .int r2), (5, .int r1), (0, .ref b), (1, .ref (g_h g)), (2, .ref (n_h gm)), (3, .ref ao), (4, .int (nI (3 * i)))]) hx hb d_L_law_548 hl (by decide) rfl (fun ls hl => ?_)
  refine lv_aload_n hx hb d_L_law_550 rfl (lv_at hl 4 rfl) ?_
  have hwM : zHere D t0 (mT gm) (mW gm yu) A s H locs := ⟨hPm, hKm, zD_l hD, hS, hA, hE⟩
  refine vp_callSi (zrV (n := 0) (As := []) (rest := []) ⟨hx, hb, hml, hown, hk⟩ (c_M_thrown_ok l D t0 gm yu H.size) zk491 zk492 zk493 zk5 kc_M_thrown ⟨rfl, by decide, by decide, by decide⟩ rfl rfl ⟨Nat.le_of_ble_eq_true rfl, Nat.le_of_ble_eq_true rfl⟩ hwM (va_recv hKm hPm (ci := 2) (q0 := 0) rfl rfl) rfl hl.1 rfl (Nat.le_of_ble_eq_true rfl) d_L_law_551 ⟨show cells + 1 + 0 + 0 ≤ 601024 from by omega, show slots + 6 + 0 + 0 ≤ 7293034 from by omega⟩).run (fun r3 h3 => ?_)
  refine lv_iload hx hb d_L_law_554 (lv_at hl 1 rfl) ?_
  refine lv_icmp_eq (tgt := 561) hx hb d_L_law_556 (by decide) (fun _ => ?_) (fun h9 => absurd (h3.trans hsm.2.1.symm) h9)
  refine lv_iload hx hb d_L_law_561 (lv_at hl 1 rfl) ?_
  refine lv_if_ne (tgt := 578) hx hb d_L_law_563 (by decide) (fun _ => ?_) (fun h0 => ?_)
  · refine lv_goto (tgt := 637) hx hb d_L_law_578 (by decide) ?_
    exact kk uu.1 yu uu.2 H locs _ _ ls ⟨hPz, hPm, hKz, hKm, hD, hS, hsm.1, by have := hsm.2.2.2; omega, by omega, by omega⟩ (lv_sub hl [2, 3, 4, 5, 6] rfl)
  refine lv_aload_n hx hb d_L_law_566 rfl (lv_at hl 5 rfl) ?_
  refine lv_iconst (v := nI 0) hx hb d_L_law_567 (by decide) ?_
  refine va_lald hx hb hKz hPz 0 0 rfl rfl (vp_in_nI (by decide) (by decide)) d_L_law_568 ?_
  refine lv_iload hx hb d_L_law_569 (lv_at hl 0 rfl) ?_
  refine lv_i2l hx hb d_L_law_571 rfl ?_
  refine W.lcmp hx hb d_L_law_572 ?_
  refine lv_if_eq (tgt := 578) hx hb d_L_law_573 (by decide) (fun _ => ?_) (fun h9 => absurd (lw_eq0 (show uu.2 (nI 0).toNatClampNeg = r2.toInt64 from by rw [nI_clamp (by decide)]; exact hsm.2.2.1 h0)) h9)
  refine lv_goto (tgt := 637) hx hb d_L_law_578 (by decide) ?_
  exact kk uu.1 yu uu.2 H locs _ _ ls ⟨hPz, hPm, hKz, hKm, hD, hS, hsm.1, by have := hsm.2.2.2; omega, by omega, by omega⟩ (lv_sub hl [2, 3, 4, 5, 6] rfl)
set_option maxHeartbeats 1000000 in
set_option maxRecDepth 100000 in
theorem lw_count {p : Program} {l : Launch} {e : Env} {s : State} {m : MethodId} {below : List Frame} {meth : Method} {c : Code} {b L : Nat} {xs : Nat → Int32} {D : va_G} {t0 : Nat} {g : ZG} {gm : MG} {ao : Nat} {co : ClassId} {A : Nat → Prop} {z : ZT} {y : MT} {f : Nat → Int64} {i : Nat} {H : Heap} {locs : List Loc} {cells slots : Nat} {ls : Array Slot} {Q : State → Prop} (hF : lwF p l s m c b L xs t0 A) (hI : lwI D t0 g gm ao co A s z y f i H locs cells slots) (hl : lv_has ls 7 [(0, .ref b), (1, .ref (g_h g)), (2, .ref (n_h gm)), (3, .ref ao), (4, .int (nI (3 * i)))]) (hi : 3 * i + 3 ≤ L)
    (kk : ∀ (z : ZT) (y : MT) (f : Nat → Int64) (H : Heap) (locs : List Loc) (cells slots : Nat) (ls : Array Slot), lwI D t0 g gm ao co A s z y f (i + 1) H locs cells slots → lv_has ls 7 [(0, .ref b), (1, .ref (g_h g)), (2, .ref (n_h gm)), (3, .ref ao), (4, .int (nI (3 * i)))] → W p l e room_1 s m #[Value.ref b] below meth c H locs cells slots Q (F0 m 637 ls [])) : W p l e room_1 s m #[Value.ref b] below meth c H locs cells slots Q (F0 m 581 ls []) := by
  obtain ⟨⟨hx, hb, hml, hown, hk⟩, hX, hbl, hA0, hA, hE, hL, hst⟩ := hF
  obtain ⟨hPz, hPm, hKz, hKm, hD, hS, hRel, hbs, hce, hsl⟩ := hI
  have hz := hRel.1
  have hy := hRel.2.1
  have hbA : ¬ A b := fun h => by have := hA0 b h; omega
  have hbk : m_backs y + 1 < 100000 := by omega
  obtain ⟨v, hv1⟩ : ∃ v : Int32, xs (nI (3 * i + 1)).toNatClampNeg = v := ⟨_, rfl⟩
  refine lv_aload_n hx hb d_L_law_581 rfl (lv_at hl 1 rfl) ?_
  refine lv_aload_n hx hb d_L_law_582 rfl (lv_at hl 0 rfl) ?_
  refine lv_iload hx hb d_L_law_583 (lv_at hl 4 rfl) ?_
  refine lv_iconst (v := nI 1) hx hb d_L_law_585 (by decide) ?_
  refine lv_iadd hx hb d_L_law_586 ?_
  refine zh_t (show (nI (3 * i) + nI 1) = nI ((3 * i) + 1) from nI_add _ _) ?_
  refine va_sld hx hb hX hbl hbA hS (vp_in_nI (by omega) (by omega)) d_L_law_587 ?_
  refine zh_t hv1 ?_
  refine lv_aload_n hx hb d_L_law_588 rfl (lv_at hl 3 rfl) ?_
  have hwZ : zHere D t0 ((co, .long) :: zT g z) ((ao, .inl (co, 1, .inr (.inl f))) :: zW t0 g z) A s H locs := ⟨hPz, hKz, zD_r hD, hS, hA, hE⟩
  refine zciF (zrSW (n := 3) (As := [.ref (g_h g), .int v, .ref ao]) (rest := []) ⟨hx, hb, hml, hown, hk⟩ (c_L_count_ok l D t0 g z H.size ao co f v hst) zk439 zk440 zk0 kc_L_count ⟨by decide, by decide, by decide⟩ rfl rfl ⟨Nat.le_of_ble_eq_true rfl, Nat.le_of_ble_eq_true rfl⟩ hwZ rfl hl.1 rfl (Nat.le_of_ble_eq_true rfl) d_L_law_589 ⟨show cells + 1 ≤ 601024 from by omega, show slots + 6 ≤ 7293034 from by omega⟩) hwZ hPm hD (fun r1 uu H locs h1 hPm hPz hKz hD hS => ?_)
  have hPz : va_P D zcl ((ao, .inl (co, 1, .inr (.inl uu.2))) :: zW t0 g uu.1) H := hPz
  have hKz : va_K D zcl ((co, .long) :: zT g uu.1) s := hKz
  have hD : va_D A (mW gm y ++ ((ao, .inl (co, 1, .inr (.inl uu.2))) :: zW t0 g uu.1)) := hD
  refine lv_istore (lv' := [(5, .int r1), (0, .ref b), (1, .ref (g_h g)), (2, .ref (n_h gm)), (3, .ref ao), (4, .int (nI (3 * i)))]) hx hb d_L_law_592 hl (by decide) rfl (fun ls hl => ?_)
  refine lv_aload_n hx hb d_L_law_594 rfl (lv_at hl 3 rfl) ?_
  refine lv_aload_n hx hb d_L_law_595 rfl (lv_at hl 1 rfl) ?_
  refine lv_iload hx hb d_L_law_596 (lv_at hl 5 rfl) ?_
  refine lv_iconst (v := nI 1) hx hb d_L_law_598 (by decide) ?_
  refine lv_iadd hx hb d_L_law_599 ?_
  refine zh_t (show (nI (3 * i) + nI 1) = nI ((3 * i) + 1) from nI_add _ _) ?_
  refine va_sld hx hb hX hbl hbA hS (vp_in_nI (by omega) (by omega)) d_L_law_600 ?_
  refine zh_t hv1 ?_
  have hwM : zHere D t0 (mT gm) (mW gm y) A s H locs := ⟨hPm, hKm, zD_l hD, hS, hA, hE⟩
  refine zciF (zrV (n := 1) (As := [.int v]) (rest := []) ⟨hx, hb, hml, hown, hk⟩ (c_M_count_ok l D t0 gm y H.size v hy) zk578 zk579 zk580 zk5 kc_M_count ⟨rfl, by decide, by decide, by decide⟩ rfl rfl ⟨Nat.le_of_ble_eq_true rfl, Nat.le_of_ble_eq_true rfl⟩ hwM (va_recv hKm hPm (ci := 2) (q0 := 0) rfl rfl) rfl hl.1 rfl (Nat.le_of_ble_eq_true rfl) d_L_law_601 ⟨show cells + 1 + 0 ≤ 601024 from by omega, show slots + 6 + 0 ≤ 7293034 from by omega⟩) hwM hPz (zD_sw hD) (fun r2 yu H locs h2 hPz hPm hKm hD hS => ?_)
  have hPm : va_P D zcl (mW gm yu) H := hPm
  have hKm : va_K D zcl (mT gm) s := hKm
  have hD : va_D A (mW gm yu ++ ((ao, .inl (co, 1, .inr (.inl uu.2))) :: zW t0 g uu.1)) := zD_sw hD
  have hsm := op_count hRel h1 h2
  refine lv_istore (lv' := [(6, .int r2), (5, .int r1), (0, .ref b), (1, .ref (g_h g)), (2, .ref (n_h gm)), (3, .ref ao), (4, .int (nI (3 * i)))]) hx hb d_L_law_604 hl (by decide) rfl (fun ls hl => ?_)
  refine lv_aload_n hx hb d_L_law_606 rfl (lv_at hl 4 rfl) ?_
  have hwM : zHere D t0 (mT gm) (mW gm yu) A s H locs := ⟨hPm, hKm, zD_l hD, hS, hA, hE⟩
  refine vp_callSi (zrV (n := 0) (As := []) (rest := []) ⟨hx, hb, hml, hown, hk⟩ (c_M_thrown_ok l D t0 gm yu H.size) zk491 zk492 zk493 zk5 kc_M_thrown ⟨rfl, by decide, by decide, by decide⟩ rfl rfl ⟨Nat.le_of_ble_eq_true rfl, Nat.le_of_ble_eq_true rfl⟩ hwM (va_recv hKm hPm (ci := 2) (q0 := 0) rfl rfl) rfl hl.1 rfl (Nat.le_of_ble_eq_true rfl) d_L_law_607 ⟨show cells + 1 + 0 + 0 ≤ 601024 from by omega, show slots + 6 + 0 + 0 ≤ 7293034 from by omega⟩).run (fun r3 h3 => ?_)
  refine lv_iload hx hb d_L_law_610 (lv_at hl 1 rfl) ?_
  refine lv_icmp_eq (tgt := 617) hx hb d_L_law_612 (by decide) (fun _ => ?_) (fun h9 => absurd (h3.trans hsm.2.1.symm) h9)
  refine lv_iload hx hb d_L_law_617 (lv_at hl 1 rfl) ?_
  refine lv_if_ne (tgt := 634) hx hb d_L_law_619 (by decide) (fun _ => ?_) (fun h0 => ?_)
  · refine lv_goto (tgt := 637) hx hb d_L_law_634 (by decide) ?_
    exact kk uu.1 yu uu.2 H locs _ _ ls ⟨hPz, hPm, hKz, hKm, hD, hS, hsm.1, by have := hsm.2.2.2; omega, by omega, by omega⟩ (lv_sub hl [2, 3, 4, 5, 6] rfl)
  refine lv_aload_n hx hb d_L_law_622 rfl (lv_at hl 5 rfl) ?_
  refine lv_iconst (v := nI 0) hx hb d_L_law_623 (by decide) ?_
  refine va_lald hx hb hKz hPz 0 0 rfl rfl (vp_in_nI (by decide) (by decide)) d_L_law_624 ?_
  refine lv_iload hx hb d_L_law_625 (lv_at hl 0 rfl) ?_
  refine lv_i2l hx hb d_L_law_627 rfl ?_
  refine W.lcmp hx hb d_L_law_628 ?_
  refine lv_if_eq (tgt := 634) hx hb d_L_law_629 (by decide) (fun _ => ?_) (fun h9 => absurd (lw_eq0 (show uu.2 (nI 0).toNatClampNeg = r2.toInt64 from by rw [nI_clamp (by decide)]; exact hsm.2.2.1 h0)) h9)
  refine lv_goto (tgt := 637) hx hb d_L_law_634 (by decide) ?_
  exact kk uu.1 yu uu.2 H locs _ _ ls ⟨hPz, hPm, hKz, hKm, hD, hS, hsm.1, by have := hsm.2.2.2; omega, by omega, by omega⟩ (lv_sub hl [2, 3, 4, 5, 6] rfl)
set_option maxHeartbeats 1000000 in
set_option maxRecDepth 100000 in
theorem lw_loop {p : Program} {l : Launch} {e : Env} {s : State} {m : MethodId} {below : List Frame} {meth : Method} {c : Code} {b L : Nat} {xs : Nat → Int32} {D : va_G} {t0 : Nat} {g : ZG} {gm : MG} {ao : Nat} {co : ClassId} {A : Nat → Prop} {z : ZT} {y : MT} {f : Nat → Int64} {i : Nat} {H : Heap} {locs : List Loc} {cells slots : Nat} {ls : Array Slot} (hr : meth.sig.returnType = ret) (hlocks : meth.locks = false) (hF : lwF p l s m c b L xs t0 A) (hI : lwI D t0 g gm ao co A s z y f i H locs cells slots) (hl : lv_has ls 7 [(0, .ref b), (1, .ref (g_h g)), (2, .ref (n_h gm)), (3, .ref ao), (4, .int (nI (3 * i)))]) (hi0 : 3 * i ≤ L) : W p l e room_1 s m #[Value.ref b] below meth c H locs cells slots (lw_Z below #[Value.ref b] s) (F0 m 23 ls []) := by
  have hF0 := hF
  obtain ⟨⟨hx, hb, hml, hown, hk⟩, hX, hbl, hA0, hA, hE, hL, hst⟩ := hF
  have hbA : ¬ A b := fun h => by have := hA0 b h; omega
  refine zh_loopC (A := ZT × MT × (Nat → Int64) × Nat) (fun q H locs cells slots ls => lwI D t0 g gm ao co A s q.1 q.2.1 q.2.2.1 q.2.2.2 H locs cells slots ∧ lv_has ls 7 [(0, .ref b), (1, .ref (g_h g)), (2, .ref (n_h gm)), (3, .ref ao), (4, .int (nI (3 * q.2.2.2)))] ∧ 3 * q.2.2.2 ≤ L) (fun q => L - 3 * q.2.2.2) ?_ (z, y, f, i) ⟨hI, hl, hi0⟩
  clear hI hl hi0
  rintro ⟨z, y, f, i⟩ H locs cells slots ls ⟨hI, hl, hi0⟩ ih
  have hI : lwI D t0 g gm ao co A s z y f i H locs cells slots := hI
  have hl : lv_has ls 7 [(0, .ref b), (1, .ref (g_h g)), (2, .ref (n_h gm)), (3, .ref ao), (4, .int (nI (3 * i)))] := hl
  have hi0 : 3 * i ≤ L := hi0
  have hS := hI.2.2.2.2.2.1
  refine lv_iload hx hb d_L_law_23 (lv_at hl 4 rfl) ?_
  refine lv_aload_n hx hb d_L_law_25 rfl (lv_at hl 0 rfl) ?_
  refine va_slen hx hb hX hbl hbA hS d_L_law_26 ?_
  refine zh_t (show Int32.ofNat L = nI L from rfl) ?_
  refine lv_iconst (v := nI 3) hx hb d_L_law_27 (by decide) ?_
  refine lv_isub hx hb d_L_law_28 ?_
  refine lv_icmp_gt (tgt := 643) hx hb d_L_law_29 (by decide) (fun h9 => ?_) (fun h9 => ?_)
  · refine lv_iconst (v := 1) hx hb d_L_law_643 (by decide) ?_
    refine va_forget (fun q hq => hA0 _ (hS.2.2 q hq)) ?_
    refine W.widen (k := 601024) (n := 7293034) (by have := hI.2.2.2.2.2.2.2.2.1; omega) (by have := hI.2.2.2.2.2.2.2.2.2; omega) ?_
    exact lw_ret hx hb hr hlocks d_L_law_644
  rw [lw_cmp hL hi0] at h9
  have hi : 3 * i + 3 ≤ L := by omega
  have tail : ∀ (z : ZT) (y : MT) (f : Nat → Int64) (H : Heap) (locs : List Loc) (cells slots : Nat) (ls : Array Slot), lwI D t0 g gm ao co A s z y f (i + 1) H locs cells slots → lv_has ls 7 [(0, .ref b), (1, .ref (g_h g)), (2, .ref (n_h gm)), (3, .ref ao), (4, .int (nI (3 * i)))] → W p l e room_1 s m #[Value.ref b] below meth c H locs cells slots (lw_Z below #[Value.ref b] s) (F0 m 637 ls []) := by
    intro z y f H locs cells slots ls hI hl
    refine lv_iinc (lv' := [(4, .int (nI (3 * (i + 1)))), (0, .ref b), (1, .ref (g_h g)), (2, .ref (n_h gm)), (3, .ref ao)]) (v := nI (3 * (i + 1))) hx hb d_L_law_637 hl (k := 4) rfl ((nI_add (3 * i) 3).trans (congrArg nI (by omega))) (by decide) rfl (fun ls hl => ?_)
    refine lv_goto (tgt := 23) hx hb d_L_law_640 (by decide) ?_
    exact ih (z, y, f, i + 1) H locs cells slots ls ⟨hI, lv_sub hl [1, 2, 3, 4, 0] rfl, by show 3 * (i + 1) ≤ L; omega⟩ (by show L - 3 * (i + 1) < L - 3 * i; omega)
  obtain ⟨v0, hv0⟩ : ∃ v : Int32, xs (nI (3 * i)).toNatClampNeg = v := ⟨_, rfl⟩
  refine lv_aload_n hx hb d_L_law_32 rfl (lv_at hl 0 rfl) ?_
  refine lv_iload hx hb d_L_law_33 (lv_at hl 4 rfl) ?_
  refine va_sld hx hb hX hbl hbA hS (vp_in_nI (by omega) (by omega)) d_L_law_35 ?_
  refine zh_t hv0 ?_
  refine lv_bipush (v := nI 15) hx hb d_L_law_36 (by decide) ?_
  refine lv_iand hx hb d_L_law_38 ?_
  rcases lw_sw (v0 &&& (nI 15)) with ⟨k, hk9, e9⟩ | h9
  · refine zh_t e9 ?_
    clear e9
    rcases (show k = 0 ∨ k = 1 ∨ k = 2 ∨ k = 3 ∨ k = 4 ∨ k = 5 ∨ k = 6 ∨ k = 7 ∨ k = 8 ∨ k = 9 by omega) with rfl | rfl | rfl | rfl | rfl | rfl | rfl | rfl | rfl | rfl
    · refine lv_tableIn (off := 53) (tgt := 92) hx hb d_L_law_39 (by decide) (by decide) (by decide) (by decide) ?_
      exact lw_get hF0 hI hl hi tail
    · refine lv_tableIn (off := 109) (tgt := 148) hx hb d_L_law_39 (by decide) (by decide) (by decide) (by decide) ?_
      exact lw_back hF0 hI hl hi tail
    · refine lv_tableIn (off := 165) (tgt := 204) hx hb d_L_law_39 (by decide) (by decide) (by decide) (by decide) ?_
      exact lw_again hF0 hI hl hi tail
    · refine lv_tableIn (off := 233) (tgt := 272) hx hb d_L_law_39 (by decide) (by decide) (by decide) (by decide) ?_
      exact lw_kind hF0 hI hl hi tail
    · refine lv_tableIn (off := 289) (tgt := 328) hx hb d_L_law_39 (by decide) (by decide) (by decide) (by decide) ?_
      exact lw_block hF0 hI hl hi tail
    · refine lv_tableIn (off := 345) (tgt := 384) hx hb d_L_law_39 (by decide) (by decide) (by decide) (by decide) ?_
      exact lw_write hF0 hI hl hi tail
    · refine lv_tableIn (off := 393) (tgt := 432) hx hb d_L_law_39 (by decide) (by decide) (by decide) (by decide) ?_
      exact lw_read hF0 hI hl hi tail
    · refine lv_tableIn (off := 449) (tgt := 488) hx hb d_L_law_39 (by decide) (by decide) (by decide) (by decide) ?_
      exact lw_lost hF0 hI hl hi tail
    · refine lv_tableIn (off := 486) (tgt := 525) hx hb d_L_law_39 (by decide) (by decide) (by decide) (by decide) ?_
      exact lw_lostAt hF0 hI hl hi tail
    · refine lv_tableIn (off := 542) (tgt := 581) hx hb d_L_law_39 (by decide) (by decide) (by decide) (by decide) ?_
      exact lw_count hF0 hI hl hi tail
  · refine lv_tableOut (tgt := 637) hx hb d_L_law_39 h9 (by decide) ?_
    obtain ⟨a1, a2, a3, a4, a5, a6, a7, a8, a9, a10⟩ := hI
    exact tail z y f H locs cells slots ls ⟨a1, a2, a3, a4, a5, a6, a7, by omega, by omega, by omega⟩ hl
