-- worlds in two parts: a call on the one, the other stays
section
variable {D : va_G} {cl : List vw_C} {A B : Nat → Prop} {w r w1 : va_W} {H H1 : Heap}
theorem zP_l (h : va_P D cl (r ++ w) H) : va_P D cl r H := fun k q hk => h k q (by rw [List.getElem?_append_left (List.getElem?_eq_some_iff.mp hk).1]; exact hk)
theorem zP_r (h : va_P D cl (r ++ w) H) : va_P D cl w H := fun k q hk => h (r.length + k) q (by rw [List.getElem?_append_right (Nat.le_add_right _ _), Nat.add_sub_cancel_left]; exact hk)
theorem zP_app (h1 : va_P D cl r H) (h2 : va_P D cl w H) : va_P D cl (r ++ w) H := fun k q hk => by
  by_cases e : k < r.length
  · rw [List.getElem?_append_left e] at hk
    exact h1 k q hk
  · rw [List.getElem?_append_right (by omega)] at hk
    exact h2 _ q hk
theorem zD_l (h : va_D A (r ++ w)) : va_D A r := by
  have up : ∀ (k : Nat) (q : Nat × va_E), r[k]? = some q → (r ++ w)[k]? = some q := fun k q hk => by rw [List.getElem?_append_left (List.getElem?_eq_some_iff.mp hk).1]; exact hk
  exact ⟨fun i j p q hi hj e => h.1 i j p q (up i p hi) (up j q hj) e, fun k q hk => h.2 k q (up k q hk)⟩
theorem zD_r (h : va_D A (r ++ w)) : va_D A w := by
  have up : ∀ (k : Nat) (q : Nat × va_E), w[k]? = some q → (r ++ w)[r.length + k]? = some q := fun k q hk => by rw [List.getElem?_append_right (Nat.le_add_right _ _), Nat.add_sub_cancel_left]; exact hk
  exact ⟨fun i j p q hi hj e => by have := h.1 _ _ p q (up i p hi) (up j q hj) e; omega, fun k q hk => h.2 _ q (up k q hk)⟩
theorem zD_x (h : va_D A (r ++ w)) : ∀ (i j : Nat) (p q : Nat × va_E), r[i]? = some p → w[j]? = some q → p.1 ≠ q.1 := fun i j p q hi hj e => by
  have h1 : (r ++ w)[i]? = some p := by rw [List.getElem?_append_left (List.getElem?_eq_some_iff.mp hi).1]; exact hi
  have h2 : (r ++ w)[r.length + j]? = some q := by rw [List.getElem?_append_right (Nat.le_add_right _ _), Nat.add_sub_cancel_left]; exact hj
  have h3 := h.1 _ _ p q h1 h2 e
  have h4 := (List.getElem?_eq_some_iff.mp hi).1
  omega
theorem zD_app (h1 : va_D A r) (h2 : va_D A w) (hx : ∀ (i j : Nat) (p q : Nat × va_E), r[i]? = some p → w[j]? = some q → p.1 ≠ q.1) : va_D A (r ++ w) := by
  have dn : ∀ (k : Nat) (q : Nat × va_E), (r ++ w)[k]? = some q → (k < r.length ∧ r[k]? = some q) ∨ (r.length ≤ k ∧ w[k - r.length]? = some q) := fun k q hk => by
    by_cases e : k < r.length
    · rw [List.getElem?_append_left e] at hk
      exact Or.inl ⟨e, hk⟩
    · rw [List.getElem?_append_right (by omega)] at hk
      exact Or.inr ⟨by omega, hk⟩
  refine ⟨fun i j p q hi hj e => ?_, fun k q hk => ?_⟩
  · rcases dn i p hi with ⟨a1, a2⟩ | ⟨a1, a2⟩ <;> rcases dn j q hj with ⟨b1, b2⟩ | ⟨b1, b2⟩
    · exact h1.1 i j p q a2 b2 e
    · exact absurd e (hx _ _ p q a2 b2)
    · exact absurd e.symm (hx _ _ q p b2 a2)
    · have := h2.1 _ _ p q a2 b2 e
      omega
  · rcases dn k q hk with ⟨a1, a2⟩ | ⟨a1, a2⟩
    · exact h1.2 k q a2
    · exact h2.2 _ q a2
theorem zD_sw (h : va_D A (r ++ w)) : va_D A (w ++ r) := zD_app (zD_r h) (zD_l h) (fun i j p q hi hj e => zD_x h j i q p hj hi e.symm)
/-- behind a call on w: the rest r as it was, beside what w became -/
theorem zjoin (hPr : va_P D cl r H) (hPw : va_P D cl w H) (hD : va_D A (r ++ w)) (hk : ∀ q : Nat, q < H.size → ¬ va_A w H.size q → H1[q]? = H[q]?) (hF : ∀ q, va_A w H.size q → A q) (hD1 : va_D (va_A w H.size) w1) : va_P D cl r H1 ∧ va_D A (r ++ w1) := by
  have apart : ∀ (k : Nat) (q : Nat × va_E), r[k]? = some q → q.1 < H.size ∧ ¬ va_A w H.size q.1 := fun k q hq => by
    have hl := (hPr k q hq).lt
    refine ⟨hl, fun h => ?_⟩
    rcases h with ⟨j, e, hj⟩ | h
    · exact zD_x hD k j q (q.1, e) hq hj rfl
    · omega
  refine ⟨hPr.kept (fun k q hq => hk q.1 (apart k q hq).1 (apart k q hq).2), zD_app (zD_l hD) (hD1.weaken (fun _ q _ h => hF q.1 h)) (fun i j p q hi hj e => ?_)⟩
  exact (apart i p hi).2 (e ▸ hD1.2 j q hj)
end
section
variable {p : Program} {l : Launch} {e : Env} {R : Room} {s : State} {m : MethodId} {args : Array Value} {below : List Frame} {meth : Method} {c : Code} {H : Heap} {locs : List Loc} {cells slots : Nat} {Q : State → Prop} {pc : Nat} {ls : Array Slot} {st0 rest : List Value}
variable {D : va_G} {t0 : Nat} {tys : List (ClassId × FieldType)} {w r : va_W} {A : Nat → Prop} {mc ms : Nat} {a : Array Value} {U : Type} {T9 : U → List (ClassId × FieldType)} {w9 : U → va_W} {EX : String → Prop}
theorem zxcvF {post : U → Prop} (hr : vx_Run p l e R s m args below meth c H locs cells slots mc ms (F0 m pc ls st0) rest (va_Qv post (fun u t => zPost D (T9 u) (va_A w H.size) (w9 u) t) (va_A w H.size) a) (zXc D tys w (va_A w H.size) EX) (va_A w H.size)) (hw : zHere D t0 tys w A s H locs) (hPr : va_P D zcl r H) (hDr : va_D A (r ++ w))
    (kx : ∀ (E : String) (ce : Cell) (q9 : Addr) (H1 : Heap) (locs1 : List Loc), EX E → va_P D zcl r H1 → va_P D zcl w H1 → va_D A (r ++ w) → va_S A s.heap H1 locs1 → H1[q9]? = some ce → ce.vm = .none → s.vm.findClass E = some ce.cls → vx_W p l e R s m args below meth c H1 locs1 (cells + mc) (slots + ms) Q (F0 m pc ls rest) q9)
    (kk : ∀ (u : U) (H1 : Heap) (locs1 : List Loc), post u → va_P D zcl r H1 → va_P D zcl (w9 u) H1 → va_K D zcl (T9 u) s → va_D A (r ++ w9 u) → va_S A s.heap H1 locs1 → W p l e R s m args below meth c H1 locs1 (cells + mc) (slots + ms) Q (F0 m (pc + 3) ls (rest))) : W p l e R s m args below meth c H locs cells slots Q (F0 m pc ls st0) :=
  vx_callv hr hw.2.2.2.1 (fun q _ h => hw.free q h) hw.free (fun q _ h => hw.free q h)
    (fun E ce q9 _ t H1 locs1 ht _ _ hB _ hq9 hS1 hce hcv hcl => have hj := zjoin hPr hw.1 hDr hq9 hw.free hB.2.2.2; kx E ce q9 H1 locs1 hB.1 hj.1 (by rw [← ht]; exact hB.2.1) hj.2 hS1 hce hcv hcl)
    (fun u t H1 locs1 ht hvm hp hB _ hq9 hS1 => have hj := zjoin hPr hw.1 hDr hq9 hw.free hB.2.2; kk u H1 locs1 hp hj.1 (by rw [← ht]; exact hB.1) (va_K.moved hvm.symm hB.2.1) hj.2 hS1)
theorem zxciF {post : Int32 → U → Prop} (hr : vx_Run p l e R s m args below meth c H locs cells slots mc ms (F0 m pc ls st0) rest (va_Qi post (fun u t => zPost D (T9 u) (va_A w H.size) (w9 u) t) (va_A w H.size) a) (zXc D tys w (va_A w H.size) EX) (va_A w H.size)) (hw : zHere D t0 tys w A s H locs) (hPr : va_P D zcl r H) (hDr : va_D A (r ++ w))
    (kx : ∀ (E : String) (ce : Cell) (q9 : Addr) (H1 : Heap) (locs1 : List Loc), EX E → va_P D zcl r H1 → va_P D zcl w H1 → va_D A (r ++ w) → va_S A s.heap H1 locs1 → H1[q9]? = some ce → ce.vm = .none → s.vm.findClass E = some ce.cls → vx_W p l e R s m args below meth c H1 locs1 (cells + mc) (slots + ms) Q (F0 m pc ls rest) q9)
    (kk : ∀ (x : Int32) (u : U) (H1 : Heap) (locs1 : List Loc), post x u → va_P D zcl r H1 → va_P D zcl (w9 u) H1 → va_K D zcl (T9 u) s → va_D A (r ++ w9 u) → va_S A s.heap H1 locs1 → W p l e R s m args below meth c H1 locs1 (cells + mc) (slots + ms) Q (F0 m (pc + 3) ls (.int x :: rest))) : W p l e R s m args below meth c H locs cells slots Q (F0 m pc ls st0) :=
  vx_calli hr hw.2.2.2.1 (fun q _ h => hw.free q h) hw.free (fun q _ h => hw.free q h)
    (fun E ce q9 _ t H1 locs1 ht _ _ hB _ hq9 hS1 hce hcv hcl => have hj := zjoin hPr hw.1 hDr hq9 hw.free hB.2.2.2; kx E ce q9 H1 locs1 hB.1 hj.1 (by rw [← ht]; exact hB.2.1) hj.2 hS1 hce hcv hcl)
    (fun x u t H1 locs1 ht hvm hp hB _ hq9 hS1 => have hj := zjoin hPr hw.1 hDr hq9 hw.free hB.2.2; kk x u H1 locs1 hp hj.1 (by rw [← ht]; exact hB.1) (va_K.moved hvm.symm hB.2.1) hj.2 hS1)
theorem zcvF {post : U → Prop} (hr : va_Run p l e R s m args below meth c H locs cells slots mc ms (F0 m pc ls st0) rest (va_Qv post (fun u t => zPost D (T9 u) (va_A w H.size) (w9 u) t) (va_A w H.size) a) (va_A w H.size)) (hw : zHere D t0 tys w A s H locs) (hPr : va_P D zcl r H) (hDr : va_D A (r ++ w))
    (kk : ∀ (u : U) (H1 : Heap) (locs1 : List Loc), post u → va_P D zcl r H1 → va_P D zcl (w9 u) H1 → va_K D zcl (T9 u) s → va_D A (r ++ w9 u) → va_S A s.heap H1 locs1 → W p l e R s m args below meth c H1 locs1 (cells + mc) (slots + ms) Q (F0 m (pc + 3) ls rest)) : W p l e R s m args below meth c H locs cells slots Q (F0 m pc ls st0) :=
  va_callv hr hw.2.2.2.1 (fun q _ h => hw.free q h) hw.free (fun u t H1 locs1 ht hvm hp hB _ hq9 hS1 => have hj := zjoin hPr hw.1 hDr hq9 hw.free hB.2.2; kk u H1 locs1 hp hj.1 (by rw [← ht]; exact hB.1) (va_K.moved hvm.symm hB.2.1) hj.2 hS1)
theorem zciF {post : Int32 → U → Prop} (hr : va_Run p l e R s m args below meth c H locs cells slots mc ms (F0 m pc ls st0) rest (va_Qi post (fun u t => zPost D (T9 u) (va_A w H.size) (w9 u) t) (va_A w H.size) a) (va_A w H.size)) (hw : zHere D t0 tys w A s H locs) (hPr : va_P D zcl r H) (hDr : va_D A (r ++ w))
    (kk : ∀ (x : Int32) (u : U) (H1 : Heap) (locs1 : List Loc), post x u → va_P D zcl r H1 → va_P D zcl (w9 u) H1 → va_K D zcl (T9 u) s → va_D A (r ++ w9 u) → va_S A s.heap H1 locs1 → W p l e R s m args below meth c H1 locs1 (cells + mc) (slots + ms) Q (F0 m (pc + 3) ls (.int x :: rest))) : W p l e R s m args below meth c H locs cells slots Q (F0 m pc ls st0) :=
  va_calli hr hw.2.2.2.1 (fun q _ h => hw.free q h) hw.free (fun x u t H1 locs1 ht hvm hp hB _ hq9 hS1 => have hj := zjoin hPr hw.1 hDr hq9 hw.free hB.2.2; kk x u H1 locs1 hp hj.1 (by rw [← ht]; exact hB.1) (va_K.moved hvm.symm hB.2.1) hj.2 hS1)
/-- a static method with handlers -/
theorem zrSW {y : MethodName} {bytes cc : ByteArray} {maxL nL n index : Nat} {ret : Option FieldType} {hh : List (Nat × Nat × Nat × Nat)} {rm : Room} {Qc : Array Value → State → Outcome → State → Prop} {free : Addr → Prop} {own : String} {As : List Value} (S : CallFix p m c cc nL s args zB own) (hM : Met l y (Cond.codeWith y bytes maxL ret hh :: zB) rm (zPre D t0 tys w H.size As) Qc mc ms free)
    (h1 : Cond.methodLink own index y ∈ zB) (h2 : Cond.static y ∈ zB) (h4 : Cond.initialized y.cls ∈ zB) (h5 : Cond.codeWith y bytes maxL ret hh ∈ zB) (hd : zDs y n) (hrc : rm.cells = mc) (hrs : rm.slots = ms) (hR : rm.frames + 1 ≤ R.frames ∧ 8 + (maxL + 11) + rm.locals ≤ R.locals)
    (hw : zHere D t0 tys w A s H locs) (hn : As.length = n) (hsize : ls.size = nL) (hst : st0 = As.reverse ++ rest) (hW : (rest.map fun v => v.category).sum ≤ 8) (hdg : decode cc pc = .ok (.invokestatic index, 3)) (hf : cells + mc ≤ R.cells ∧ slots + ms ≤ R.slots) :
    va_Run p l e R s m args below meth c H locs cells slots mc ms (F0 m pc ls st0) rest (Qc As.toArray) free := by
  have hg : GoodIn zB ([Cond.methodLink own index y, Cond.static y, Cond.initialized y.cls] ++ (Cond.codeWith y bytes maxL ret hh :: zB)) := fun x hx => by
    have hm : x ∈ zB := by
      rcases List.mem_append.mp hx with h | h
      · exact zm3 h1 h2 h4 x h
      · rcases List.mem_cons.mp h with rfl | h
        · exact h5
        · exact h
    exact ⟨hm, zB_good hm⟩
  exact vx_runSW (g := F0 m pc ls st0) S hM (vx_cwSW (bytes := bytes) (maxL := maxL) (ret := ret) (hh := hh) n S.2.2.2.2 hg rfl hrc hrs hd hR) ⟨zPre_blind, fun U hU hW9 => zPre_of hw U hU hW9⟩ rfl hn hsize hst (lv_room hW) hdg hf
theorem zHere.part {q : va_W} {tys' : List (ClassId × FieldType)} (hw : zHere D t0 tys (r ++ w) A s H locs) (hK : va_K D zcl tys' s) : zHere D t0 tys' w A s H locs := ⟨zP_r hw.1, hK, zD_r hw.2.2.1, hw.2.2.2⟩
end
