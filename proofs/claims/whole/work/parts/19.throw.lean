-- methods that throw: their second end, the throw itself, calls of such methods
def zXc (D : va_G) (tys : List (ClassId × FieldType)) (w : va_W) (A : Nat → Prop) (EX : String → Prop) : String → State → State → Prop := vx_X (fun _ : Unit => True) (fun E _ t => EX E ∧ zPost D tys A w t) A
abbrev zNm : List String := ["java/lang/RuntimeException", "java/lang/Exception"]
def zat (ik ic : Nat) (cls : String) : Prop := (∀ w ∈ vx_atS "ZoneHeap" ic cls zNm, (w ∈ tables_1 ∧ goodWord w = true) ∨ w ∈ zNw) ∧ (∀ w ∈ Cond.classLink "ZoneHeap" ik cls :: Cond.initialized cls :: vx_atS "ZoneHeap" ic cls zNm, vx_ot w = true) ∧ Bundle.fit cls = true
theorem zat_A : zat 131 135 "java/lang/IllegalArgumentException" := ⟨by decide +kernel, by decide +kernel, by decide +kernel⟩
theorem zat_S : zat 145 149 "java/lang/IllegalStateException" := ⟨by decide +kernel, by decide +kernel, by decide +kernel⟩
theorem zat_I : zat 121 125 "java/lang/IndexOutOfBoundsException" := ⟨by decide +kernel, by decide +kernel, by decide +kernel⟩
section
variable {p : Program} {l : Launch} {e : Env} {R : Room} {s : State} {m : MethodId} {args : Array Value} {below : List Frame} {meth : Method} {c : Code} {H : Heap} {locs : List Loc} {cells slots : Nat} {Q : State → Prop} {pc : Nat} {ls : Array Slot} {st0 rest : List Value}
variable {D : va_G} {t0 : Nat} {tys : List (ClassId × FieldType)} {w : va_W} {A : Nat → Prop} {mc ms : Nat} {a : Array Value} {U : Type} {T9 : U → List (ClassId × FieldType)} {w9 : U → va_W} {EX : String → Prop}
theorem zthrow {cc : ByteArray} {ik is ic : Nat} {cls text : String} {Qc : Array Value → State → Outcome → State → Prop} (hst : l.stackTraces = false) (hx : p.tables.exec = Jvm.exec) (hb : c.code = cc) (hk : ∀ w ∈ zB, w.before args s = true) (hown : s.vm.findClass "ZoneHeap" = some m.cls) (hex : ∀ x ∈ c.exceptionTable.toList, False) (hlocks : meth.locks = false)
    (hw : zHere D t0 tys w A s H locs) (h1 : Cond.classLink "ZoneHeap" ik cls ∈ zB) (h2 : Cond.initialized cls ∈ zB) (h3 : (is, text) ∈ zTx) (h4 : zat ik ic cls) (hsize : ls.size = c.maxLocals)
    (d0 : decode cc pc = .ok (.new ik, 3)) (d3 : decode cc (pc + 3) = .ok (.dup, 1)) (d4 : decode cc (pc + 4) = .ok (.ldc is, 2)) (d6 : decode cc (pc + 6) = .ok (.invokespecial ic, 3)) (d9 : decode cc (pc + 9) = .ok (.athrow, 1)) (hEX : EX cls)
    (hR : 5 < R.frames) (hL : 82 ≤ R.locals) (hcells : cells + 1 ≤ R.cells) (hslots : slots + 6 ≤ R.slots) (hc : cells + 1 ≤ mc) (hs : slots + 6 ≤ ms) :
    W p l e R s m args below meth c H locs cells slots (vx_MQ below Qc (zXc D tys w A EX) args s mc ms A) (F0 m pc ls []) := by
  obtain ⟨hP, hK, hD, hS, hA, hE⟩ := hw
  obtain ⟨sa, hsa⟩ := hE.1.2.2.2.1 _ h3
  refine vx_throwS (own := "ZoneHeap") (names := zNm) (rest := []) hx hb hst hown h4.2.2 (by decide +kernel) (hk _ h1) (hk _ h2) hsa (fun w9 hw9 => (h4.1 w9 hw9).elim (fun h => hk _ (zkm2 h.1 h.2)) (fun h => va_Nw.use (zNw_tab w9 h) (hE.1.1 w9 h))) h4.2.1 hE.2.1 hE.2.2.1 hS hsize d0 d3 d4 d6 d9 (fun x hx9 => (hex x hx9).elim) hR (by show 0 + (13 * 3 + 43) ≤ R.locals; omega) hcells hslots hlocks (fun t ha hz hq => ⟨(), trivial, ⟨hEX, hP.kept (fun k q hk9 => hq q.1 (hP k q hk9).lt), va_K.moved ha hK, hD⟩, Nat.le_trans hS.1 hz, fun q h1 h2 => by rw [hq q (Nat.lt_of_lt_of_le h1 hS.1)]; exact hS.2.1 q h1 h2⟩) hS.2.2 hc hs
theorem zpass {q9 : Nat} {ce : Cell} {E : String} {Qc : Array Value → State → Outcome → State → Prop} (hex : ∀ x ∈ c.exceptionTable.toList, False) (hlocks : meth.locks = false) (hK : va_K D zcl tys s)
    (hEX : EX E) (hP : va_P D zcl w H) (hD : va_D A w) (hS : va_S A s.heap H locs) (hce : H[q9]? = some ce) (hcv : ce.vm = .none) (hcl : s.vm.findClass E = some ce.cls) (hc : cells ≤ mc) (hs : slots ≤ ms) :
    vx_W p l e R s m args below meth c H locs cells slots (vx_MQ below Qc (zXc D tys w A EX) args s mc ms A) (F0 m pc ls rest) q9 :=
  vx_out (E := E) (fun x hx => (hex x hx).elim) hlocks hce hcv hcl (fun t ht ha => ⟨(), trivial, ⟨hEX, by rw [ht]; exact hP, va_K.moved ha hK, hD⟩, hS.F ht⟩) hS.2.2 hc hs
theorem vx_callq {S SX : Type} {post : Option Nat → S → Prop} {px : SX → Prop} {B : S → State → Prop} {BX : String → SX → State → Prop} {AX A0 A1 : Nat → Prop} {free : Addr → Prop} {H0 : Heap} (hr : vx_Run p l e R s m args below meth c H locs cells slots mc ms (F0 m pc ls st0) rest (va_Qq post B A1 a) (vx_X px BX AX) free) (hS : va_S A0 H0 H locs) (hA : ∀ q, q < H.size → A1 q → A0 q) (hf : ∀ q, free q → A0 q) (hAX : ∀ q, q < H.size → AX q → A0 q)
    (kx : ∀ (E : String) (ce : Cell) (q9 : Addr) (u : SX) (t : State) (H1 : Heap) (locs1 : List Loc), t.heap = H1 → s.vm.Alike t.vm → px u → BX E u t → H.size ≤ H1.size → (∀ q : Nat, q < H.size → ¬ AX q → H1[q]? = H[q]?) → va_S A0 H0 H1 locs1 → H1[q9]? = some ce → ce.vm = .none → s.vm.findClass E = some ce.cls → vx_W p l e R s m args below meth c H1 locs1 (cells + mc) (slots + ms) Q (F0 m pc ls rest) q9)
    (kk : ∀ (r : Option Nat) (u : S) (t : State) (H1 : Heap) (locs1 : List Loc), t.heap = H1 → s.vm.Alike t.vm → post r u → B u t → H.size ≤ H1.size → (∀ q : Nat, q < H.size → ¬ A1 q → H1[q]? = H[q]?) → va_S A0 H0 H1 locs1 → W p l e R s m args below meth c H1 locs1 (cells + mc) (slots + ms) Q (F0 m (pc + 3) ls (va_rf r :: rest))) : W p l e R s m args below meth c H locs cells slots Q (F0 m pc ls st0) := by
  intro T hT X
  rcases hr T hT X with ⟨v, st₀, t, T', L, h0, X', hL, e1, e2, ⟨⟨r, u, hv, hp, hb⟩, hF⟩, st⟩ | ⟨q, st₀, t, T', L, E, ce, h0, X', hL, e1, e2, ⟨u, hp, hb, hF⟩, hce, hcv, hcl, st⟩
  · cases hv
    obtain ⟨k1, k2, k3⟩ := vx_keep h0 e1 hS hA hf hL hF
    obtain ⟨t2, a1, b1⟩ := kk r u t T'.heap (locs ++ L) e1.symm (by rw [← e2]; exact X'.warmed.alike) hp hb k1 k2 k3 T' rfl X'
    exact ⟨t2, st t2 a1, b1⟩
  · obtain ⟨k1, k2, k3⟩ := vx_keep h0 e1 hS hAX hf hL hF
    obtain ⟨t2, a1, b1⟩ := kx E ce q u t T'.heap (locs ++ L) e1.symm (by rw [← e2]; exact X'.warmed.alike) hp hb k1 k2 k3 (by rw [e1]; exact hce) hcv hcl T' rfl X'
    exact ⟨t2, st.trans a1, b1⟩
theorem zxcv {post : U → Prop} (hr : vx_Run p l e R s m args below meth c H locs cells slots mc ms (F0 m pc ls st0) rest (va_Qv post (fun u t => zPost D (T9 u) (va_A w H.size) (w9 u) t) (va_A w H.size) a) (zXc D tys w (va_A w H.size) EX) (va_A w H.size)) (hw : zHere D t0 tys w A s H locs)
    (kx : ∀ (E : String) (ce : Cell) (q9 : Addr) (H1 : Heap) (locs1 : List Loc), EX E → va_P D zcl w H1 → va_D A w → va_S A s.heap H1 locs1 → H1[q9]? = some ce → ce.vm = .none → s.vm.findClass E = some ce.cls → vx_W p l e R s m args below meth c H1 locs1 (cells + mc) (slots + ms) Q (F0 m pc ls rest) q9)
    (kk : ∀ (u : U) (H1 : Heap) (locs1 : List Loc), post u → va_P D zcl (w9 u) H1 → va_K D zcl (T9 u) s → va_D A (w9 u) → va_S A s.heap H1 locs1 → W p l e R s m args below meth c H1 locs1 (cells + mc) (slots + ms) Q (F0 m (pc + 3) ls (rest))) : W p l e R s m args below meth c H locs cells slots Q (F0 m pc ls st0) :=
  vx_callv hr hw.2.2.2.1 (fun q _ h => hw.free q h) hw.free (fun q _ h => hw.free q h)
    (fun E ce q9 _ t H1 locs1 ht _ _ hB _ _ hS1 hce hcv hcl => kx E ce q9 H1 locs1 hB.1 (by rw [← ht]; exact hB.2.1) (hB.2.2.2.weaken (fun _ q _ h => hw.free q.1 h)) hS1 hce hcv hcl)
    (fun u t H1 locs1 ht hvm hp hB _ _ hS1 => kk u H1 locs1 hp (by rw [← ht]; exact hB.1) (va_K.moved hvm.symm hB.2.1) (hB.2.2.weaken (fun _ q _ h => hw.free q.1 h)) hS1)
theorem zxci {post : Int32 → U → Prop} (hr : vx_Run p l e R s m args below meth c H locs cells slots mc ms (F0 m pc ls st0) rest (va_Qi post (fun u t => zPost D (T9 u) (va_A w H.size) (w9 u) t) (va_A w H.size) a) (zXc D tys w (va_A w H.size) EX) (va_A w H.size)) (hw : zHere D t0 tys w A s H locs)
    (kx : ∀ (E : String) (ce : Cell) (q9 : Addr) (H1 : Heap) (locs1 : List Loc), EX E → va_P D zcl w H1 → va_D A w → va_S A s.heap H1 locs1 → H1[q9]? = some ce → ce.vm = .none → s.vm.findClass E = some ce.cls → vx_W p l e R s m args below meth c H1 locs1 (cells + mc) (slots + ms) Q (F0 m pc ls rest) q9)
    (kk : ∀ (r : Int32) (u : U) (H1 : Heap) (locs1 : List Loc), post r u → va_P D zcl (w9 u) H1 → va_K D zcl (T9 u) s → va_D A (w9 u) → va_S A s.heap H1 locs1 → W p l e R s m args below meth c H1 locs1 (cells + mc) (slots + ms) Q (F0 m (pc + 3) ls (.int r :: rest))) : W p l e R s m args below meth c H locs cells slots Q (F0 m pc ls st0) :=
  vx_calli hr hw.2.2.2.1 (fun q _ h => hw.free q h) hw.free (fun q _ h => hw.free q h)
    (fun E ce q9 _ t H1 locs1 ht _ _ hB _ _ hS1 hce hcv hcl => kx E ce q9 H1 locs1 hB.1 (by rw [← ht]; exact hB.2.1) (hB.2.2.2.weaken (fun _ q _ h => hw.free q.1 h)) hS1 hce hcv hcl)
    (fun r u t H1 locs1 ht hvm hp hB _ _ hS1 => kk r u H1 locs1 hp (by rw [← ht]; exact hB.1) (va_K.moved hvm.symm hB.2.1) (hB.2.2.weaken (fun _ q _ h => hw.free q.1 h)) hS1)
theorem zxcq {post : Option Nat → U → Prop} (hr : vx_Run p l e R s m args below meth c H locs cells slots mc ms (F0 m pc ls st0) rest (va_Qq post (fun u t => zPost D (T9 u) (va_A w H.size) (w9 u) t) (va_A w H.size) a) (zXc D tys w (va_A w H.size) EX) (va_A w H.size)) (hw : zHere D t0 tys w A s H locs)
    (kx : ∀ (E : String) (ce : Cell) (q9 : Addr) (H1 : Heap) (locs1 : List Loc), EX E → va_P D zcl w H1 → va_D A w → va_S A s.heap H1 locs1 → H1[q9]? = some ce → ce.vm = .none → s.vm.findClass E = some ce.cls → vx_W p l e R s m args below meth c H1 locs1 (cells + mc) (slots + ms) Q (F0 m pc ls rest) q9)
    (kk : ∀ (r : Option Nat) (u : U) (H1 : Heap) (locs1 : List Loc), post r u → va_P D zcl (w9 u) H1 → va_K D zcl (T9 u) s → va_D A (w9 u) → va_S A s.heap H1 locs1 → W p l e R s m args below meth c H1 locs1 (cells + mc) (slots + ms) Q (F0 m (pc + 3) ls (va_rf r :: rest))) : W p l e R s m args below meth c H locs cells slots Q (F0 m pc ls st0) :=
  vx_callq hr hw.2.2.2.1 (fun q _ h => hw.free q h) hw.free (fun q _ h => hw.free q h)
    (fun E ce q9 _ t H1 locs1 ht _ _ hB _ _ hS1 hce hcv hcl => kx E ce q9 H1 locs1 hB.1 (by rw [← ht]; exact hB.2.1) (hB.2.2.2.weaken (fun _ q _ h => hw.free q.1 h)) hS1 hce hcv hcl)
    (fun r u t H1 locs1 ht hvm hp hB _ _ hS1 => kk r u H1 locs1 hp (by rw [← ht]; exact hB.1) (va_K.moved hvm.symm hB.2.1) (hB.2.2.weaken (fun _ q _ h => hw.free q.1 h)) hS1)
end
