-- rows of walking that the kit lacks: a number renamed on the stack, loops
section
variable {p : Program} {l : Launch} {e : Env} {R : Room} {s : State} {m : MethodId} {args : Array Value} {below : List Frame} {meth : Method} {c : Code} {H : Heap} {locs : List Loc} {cells slots : Nat} {Q : State → Prop} {pc : Nat} {ls : Array Slot} {rest : List Value}
theorem zh_t {x y : Int32} (h : x = y) (k : W p l e R s m args below meth c H locs cells slots Q (F0 m pc ls (.int y :: rest))) : W p l e R s m args below meth c H locs cells slots Q (F0 m pc ls (.int x :: rest)) := by
  subst h
  exact k
theorem zh_v {x y : Value} (h : x = y) (k : W p l e R s m args below meth c H locs cells slots Q (F0 m pc ls (y :: rest))) : W p l e R s m args below meth c H locs cells slots Q (F0 m pc ls (x :: rest)) := by
  subst h
  exact k
theorem zh_loop0 {A : Type} (St : A → Array Slot → Prop) (μ : A → Nat)
    (hs : ∀ (a : A) (ls : Array Slot), St a ls → (∀ (b : A) (ls' : Array Slot), St b ls' → μ b < μ a → W p l e R s m args below meth c H locs cells slots Q (F0 m pc ls' rest)) → W p l e R s m args below meth c H locs cells slots Q (F0 m pc ls rest))
    (a : A) (h : St a ls) : W p l e R s m args below meth c H locs cells slots Q (F0 m pc ls rest) := by
  have key : ∀ (n : Nat) (a : A) (ls : Array Slot), μ a = n → St a ls → W p l e R s m args below meth c H locs cells slots Q (F0 m pc ls rest) := by
    intro n
    induction n using Nat.strongRecOn with
    | _ n ih =>
      intro a ls hn h
      exact hs a ls h (fun b ls' hb hlt => ih (μ b) (by rw [← hn]; exact hlt) b ls' rfl hb)
  exact key (μ a) a ls rfl h
theorem zh_loopH {A : Type} (St : A → Heap → List Loc → Array Slot → Prop) (μ : A → Nat)
    (hs : ∀ (a : A) (H : Heap) (locs : List Loc) (ls : Array Slot), St a H locs ls → (∀ (b : A) (H' : Heap) (locs' : List Loc) (ls' : Array Slot), St b H' locs' ls' → μ b < μ a → W p l e R s m args below meth c H' locs' cells slots Q (F0 m pc ls' rest)) → W p l e R s m args below meth c H locs cells slots Q (F0 m pc ls rest))
    (a : A) (h : St a H locs ls) : W p l e R s m args below meth c H locs cells slots Q (F0 m pc ls rest) := by
  have key : ∀ (n : Nat) (a : A) (H : Heap) (locs : List Loc) (ls : Array Slot), μ a = n → St a H locs ls → W p l e R s m args below meth c H locs cells slots Q (F0 m pc ls rest) := by
    intro n
    induction n using Nat.strongRecOn with
    | _ n ih =>
      intro a H locs ls hn h
      exact hs a H locs ls h (fun b H' locs' ls' hb hlt => ih (μ b) (by rw [← hn]; exact hlt) b H' locs' ls' rfl hb)
  exact key (μ a) a H locs ls rfl h
theorem zh_loopC {A : Type} (St : A → Heap → List Loc → Nat → Nat → Array Slot → Prop) (μ : A → Nat)
    (hs : ∀ (a : A) (H : Heap) (locs : List Loc) (cells slots : Nat) (ls : Array Slot), St a H locs cells slots ls → (∀ (b : A) (H' : Heap) (locs' : List Loc) (cells' slots' : Nat) (ls' : Array Slot), St b H' locs' cells' slots' ls' → μ b < μ a → W p l e R s m args below meth c H' locs' cells' slots' Q (F0 m pc ls' rest)) → W p l e R s m args below meth c H locs cells slots Q (F0 m pc ls rest))
    (a : A) (h : St a H locs cells slots ls) : W p l e R s m args below meth c H locs cells slots Q (F0 m pc ls rest) := by
  have key : ∀ (n : Nat) (a : A) (H : Heap) (locs : List Loc) (cells slots : Nat) (ls : Array Slot), μ a = n → St a H locs cells slots ls → W p l e R s m args below meth c H locs cells slots Q (F0 m pc ls rest) := by
    intro n
    induction n using Nat.strongRecOn with
    | _ n ih =>
      intro a H locs cells slots ls hn h
      exact hs a H locs cells slots ls h (fun b H' locs' cells' slots' ls' hb hlt => ih (μ b) (by rw [← hn]; exact hlt) b H' locs' cells' slots' ls' rfl hb)
  exact key (μ a) a H locs cells slots ls rfl h
end
-- what a method may take as given beside the tables' good words: links of nest mates, casts, the launch's Strings and statics
def zNw : List Cond := [Jvm.Cond.methodLinkNest "ZoneHeap" (92 : Nat) ({ cls := "ZoneHeap$Block", name := "has", desc := "(I)Z" } : Jvm.MethodName) "ZoneHeap", Jvm.Cond.castable "java/lang/IllegalArgumentException" "java/lang/IllegalArgumentException", Jvm.Cond.declares ({ cls := "java/lang/RuntimeException", name := "<init>", desc := "()V" } : Jvm.MethodName), Jvm.Cond.declares ({ cls := "java/lang/RuntimeException", name := "<init>", desc := "(Ljava/lang/String;)V" } : Jvm.MethodName), Jvm.Cond.declares ({ cls := "java/lang/Exception", name := "<init>", desc := "()V" } : Jvm.MethodName), Jvm.Cond.declares ({ cls := "java/lang/Exception", name := "<init>", desc := "(Ljava/lang/String;)V" } : Jvm.MethodName), Jvm.Cond.declares ({ cls := "java/lang/Throwable", name := "<init>", desc := "()V" } : Jvm.MethodName), Jvm.Cond.declares ({ cls := "java/lang/Throwable", name := "<init>", desc := "(Ljava/lang/String;)V" } : Jvm.MethodName), Jvm.Cond.methodLinkNest "ZoneHeap" (163 : Nat) ({ cls := "ZoneHeap$Block", name := "<init>", desc := "(II)V" } : Jvm.MethodName) "ZoneHeap", Jvm.Cond.fieldLinkNest "ZoneHeap" (60 : Nat) "ZoneHeap$Block" "start" "I" "ZoneHeap", Jvm.Cond.fieldLinkNest "ZoneHeap" (70 : Nat) "ZoneHeap$Block" "size" "I" "ZoneHeap", Jvm.Cond.fieldLinkNest "ZoneHeap" (95 : Nat) "ZoneHeap$Block" "kept" "Z" "ZoneHeap", Jvm.Cond.fieldLinkNest "ZoneHeap" (188 : Nat) "ZoneHeap$Block" "reached" "Z" "ZoneHeap", Jvm.Cond.castable "java/lang/IllegalStateException" "java/lang/IllegalStateException", Jvm.Cond.castable "java/lang/IndexOutOfBoundsException" "java/lang/IndexOutOfBoundsException", Jvm.Cond.castable "ZoneHeap$Block" "ZoneHeap$Block", Jvm.Cond.declares ({ cls := "java/lang/Object", name := "getClass", desc := "()Ljava/lang/Class;" } : Jvm.MethodName), Jvm.Cond.castable "ZoneHeap" "java/lang/Object", Jvm.Cond.castable "ZoneHeapModel" "java/lang/Object", Jvm.Cond.castable "ZoneHeap$Block" "java/lang/Object", Jvm.Cond.castable "java/lang/String" "java/lang/Object"]
theorem zn118 : (Jvm.Cond.methodLinkNest "ZoneHeap" (92 : Nat) ({ cls := "ZoneHeap$Block", name := "has", desc := "(I)Z" } : Jvm.MethodName) "ZoneHeap") ∈ zNw := by decide +kernel
theorem zn148 : (Jvm.Cond.castable "java/lang/IllegalArgumentException" "java/lang/IllegalArgumentException") ∈ zNw := by decide +kernel
theorem zn149 : (Jvm.Cond.declares ({ cls := "java/lang/RuntimeException", name := "<init>", desc := "()V" } : Jvm.MethodName)) ∈ zNw := by decide +kernel
theorem zn150 : (Jvm.Cond.declares ({ cls := "java/lang/RuntimeException", name := "<init>", desc := "(Ljava/lang/String;)V" } : Jvm.MethodName)) ∈ zNw := by decide +kernel
theorem zn151 : (Jvm.Cond.declares ({ cls := "java/lang/Exception", name := "<init>", desc := "()V" } : Jvm.MethodName)) ∈ zNw := by decide +kernel
theorem zn152 : (Jvm.Cond.declares ({ cls := "java/lang/Exception", name := "<init>", desc := "(Ljava/lang/String;)V" } : Jvm.MethodName)) ∈ zNw := by decide +kernel
theorem zn153 : (Jvm.Cond.declares ({ cls := "java/lang/Throwable", name := "<init>", desc := "()V" } : Jvm.MethodName)) ∈ zNw := by decide +kernel
theorem zn154 : (Jvm.Cond.declares ({ cls := "java/lang/Throwable", name := "<init>", desc := "(Ljava/lang/String;)V" } : Jvm.MethodName)) ∈ zNw := by decide +kernel
theorem zn227 : (Jvm.Cond.methodLinkNest "ZoneHeap" (163 : Nat) ({ cls := "ZoneHeap$Block", name := "<init>", desc := "(II)V" } : Jvm.MethodName) "ZoneHeap") ∈ zNw := by decide +kernel
theorem zn232 : (Jvm.Cond.fieldLinkNest "ZoneHeap" (60 : Nat) "ZoneHeap$Block" "start" "I" "ZoneHeap") ∈ zNw := by decide +kernel
theorem zn234 : (Jvm.Cond.fieldLinkNest "ZoneHeap" (70 : Nat) "ZoneHeap$Block" "size" "I" "ZoneHeap") ∈ zNw := by decide +kernel
theorem zn236 : (Jvm.Cond.fieldLinkNest "ZoneHeap" (95 : Nat) "ZoneHeap$Block" "kept" "Z" "ZoneHeap") ∈ zNw := by decide +kernel
theorem zn238 : (Jvm.Cond.fieldLinkNest "ZoneHeap" (188 : Nat) "ZoneHeap$Block" "reached" "Z" "ZoneHeap") ∈ zNw := by decide +kernel
theorem zn267 : (Jvm.Cond.castable "java/lang/IllegalStateException" "java/lang/IllegalStateException") ∈ zNw := by decide +kernel
theorem zn386 : (Jvm.Cond.castable "java/lang/IndexOutOfBoundsException" "java/lang/IndexOutOfBoundsException") ∈ zNw := by decide +kernel
theorem zn584 : (Jvm.Cond.castable "ZoneHeap$Block" "ZoneHeap$Block") ∈ zNw := by decide +kernel
theorem zn587 : (Jvm.Cond.declares ({ cls := "java/lang/Object", name := "getClass", desc := "()Ljava/lang/Class;" } : Jvm.MethodName)) ∈ zNw := by decide +kernel
theorem zn588 : (Jvm.Cond.castable "ZoneHeap" "java/lang/Object") ∈ zNw := by decide +kernel
theorem zn589 : (Jvm.Cond.castable "ZoneHeapModel" "java/lang/Object") ∈ zNw := by decide +kernel
theorem zn590 : (Jvm.Cond.castable "ZoneHeap$Block" "java/lang/Object") ∈ zNw := by decide +kernel
theorem zn591 : (Jvm.Cond.castable "java/lang/String" "java/lang/Object") ∈ zNw := by decide +kernel
theorem zNw_tab : ∀ w ∈ zNw, w.onTables = true := by decide +kernel
theorem zNw_warm {s U : State} (hW : s.WarmedH U.vm) : ∀ w ∈ zNw, va_Nw w s → va_Nw w U := by
  intro w hw h
  simp only [zNw, List.mem_cons, List.not_mem_nil, or_false] at hw
  rcases hw with rfl | rfl | rfl | rfl | rfl | rfl | rfl | rfl | rfl | rfl | rfl | rfl | rfl | rfl | rfl | rfl | rfl | rfl | rfl | rfl | rfl
  · exact va_Nw.warmM hW h
  · exact va_Nw.warmC hW h
  · exact va_Nw.warmD hW h
  · exact va_Nw.warmD hW h
  · exact va_Nw.warmD hW h
  · exact va_Nw.warmD hW h
  · exact va_Nw.warmD hW h
  · exact va_Nw.warmD hW h
  · exact va_Nw.warmM hW h
  · exact va_Nw.warmF hW h
  · exact va_Nw.warmF hW h
  · exact va_Nw.warmF hW h
  · exact va_Nw.warmF hW h
  · exact va_Nw.warmC hW h
  · exact va_Nw.warmC hW h
  · exact va_Nw.warmC hW h
  · exact va_Nw.warmD hW h
  · exact va_Nw.warmC hW h
  · exact va_Nw.warmC hW h
  · exact va_Nw.warmC hW h
  · exact va_Nw.warmC hW h
def zTx : List (Nat × String) := [(136, "no block has so many octets"), (153, "no block stands there"), (155, "the block was given back"), (141, "no such octet"), (143, "no such four octets"), (147, "not all four are live"), (123, "no such lost block"), (133, "no such count")]
def zE1 (U : State) : Prop := (∀ w ∈ zNw, va_Nw w U) ∧ va_AO "java/lang/Object" U ∧ va_AO "ZoneHeap$Block" U ∧ (∀ q ∈ zTx, ∃ a, vk_R "ZoneHeap" q.1 q.2 a U) ∧ (∃ mi, va_Mi "[Ljava/lang/Object;" mi U) ∧ va_Nc "java/lang/IllegalStateException" "java/lang/IllegalArgumentException" U ∧ va_Nc "java/lang/IllegalStateException" "java/lang/IndexOutOfBoundsException" U
def zE2 (t0 : Nat) (A : Nat → Prop) (U : State) (H : Heap) : Prop := vx_Zq Bundle.tN "UNASSIGNED_STACK" Bundle.steD A U H ∧ vx_Zq Bundle.tN "SUPPRESSED_SENTINEL" Bundle.listD A U H ∧ va_Z "java/util/ArrayList" "DEFAULTCAPACITY_EMPTY_ELEMENTDATA" "[Ljava/lang/Object;" (.ref t0) A U H ∧ va_T (.object "java/lang/Object") t0 0 (fun _ => .null) A U H
def zE (t0 : Nat) (A : Nat → Prop) (U : State) : Prop := zE1 U ∧ zE2 t0 A U U.heap
theorem zE1.warm {s U : State} (hW : s.WarmedH U.vm) (h : zE1 s) : zE1 U :=
  ⟨fun w hw => zNw_warm hW w hw (h.1 w hw), va_AO.moved hW.alike h.2.1, va_AO.moved hW.alike h.2.2.1, fun q hq => (by
    obtain ⟨a, ha⟩ := h.2.2.2.1 q hq
    exact ⟨a, ha.warm hW⟩), (by obtain ⟨mi, hm⟩ := h.2.2.2.2.1; exact ⟨mi, hm.moved hW.alike⟩), h.2.2.2.2.2.1.moved hW.alike, h.2.2.2.2.2.2.moved hW.alike⟩
theorem zE1.same {s U : State} (hv : U.vm = s.vm) (h : zE1 s) : zE1 U :=
  ⟨fun w hw => va_Nw.same (zNw_tab w hw) hv.symm (h.1 w hw), va_AO.moved (hv ▸ Vm.Alike.refl s.vm) h.2.1, va_AO.moved (hv ▸ Vm.Alike.refl s.vm) h.2.2.1, fun q hq => (by
    obtain ⟨a, ha⟩ := h.2.2.2.1 q hq
    exact ⟨a, ha.same hv⟩), (by obtain ⟨mi, hm⟩ := h.2.2.2.2.1; exact ⟨mi, hm.moved (hv ▸ Vm.Alike.refl s.vm)⟩), h.2.2.2.2.2.1.moved (hv ▸ Vm.Alike.refl s.vm), h.2.2.2.2.2.2.moved (hv ▸ Vm.Alike.refl s.vm)⟩
theorem zE2.moved {t0 : Nat} {A : Nat → Prop} {u U : State} {H : Heap} (hvm : u.vm.Alike U.vm) (h : zE2 t0 A u H) : zE2 t0 A U H :=
  ⟨h.1.moved hvm, h.2.1.moved hvm, h.2.2.1.moved hvm, h.2.2.2.moved hvm⟩
theorem zE2.kept {t0 : Nat} {A : Nat → Prop} {U : State} {H H1 : Heap} (h : zE2 t0 A U H) (hq : ∀ a : Nat, a < H.size → ¬ A a → H1[a]? = H[a]?) : zE2 t0 A U H1 :=
  ⟨h.1.kept hq, h.2.1.kept hq, h.2.2.1.kept hq, h.2.2.2.kept hq⟩
theorem zE2.narrow {t0 : Nat} {A B : Nat → Prop} {U : State} {H : Heap} (h : zE2 t0 A U H) (hAB : ∀ q, B q → A q) : zE2 t0 B U H :=
  ⟨h.1.narrow hAB, h.2.1.narrow hAB, h.2.2.1.narrow hAB, h.2.2.2.narrow hAB⟩
theorem zE.call {t0 : Nat} {A B : Nat → Prop} {s U : State} {H : Heap} {locs : List Loc} (h : zE t0 A s) (hS : va_S A s.heap H locs) (hAB : ∀ q, B q → A q) (hU : U.heap = H) (hW : s.WarmedH U.vm) : zE t0 B U := by
  refine ⟨h.1.warm hW, ?_⟩
  rw [hU]
  exact ((h.2.kept (fun a h1 h2 => hS.2.1 a h1 h2)).narrow hAB).moved hW.alike
-- the one form of a contract's start, and of a world behind it
def zPre (D : va_G) (t0 : Nat) (tys : List (ClassId × FieldType)) (w : va_W) (sz : Nat) (av : List Value) : Array Value → State → Prop :=
  va_Pc av (fun U => U.heap.size = sz ∧ va_P D zcl w U.heap ∧ va_K D zcl tys U ∧ va_D (fun _ => True) w ∧ zE t0 (va_A w sz) U)
def zPost (D : va_G) (tys : List (ClassId × FieldType)) (A : Nat → Prop) (w : va_W) (t : State) : Prop := va_P D zcl w t.heap ∧ va_K D zcl tys t ∧ va_D A w
def zHere (D : va_G) (t0 : Nat) (tys : List (ClassId × FieldType)) (w : va_W) (A : Nat → Prop) (s : State) (H : Heap) (locs : List Loc) : Prop :=
  va_P D zcl w H ∧ va_K D zcl tys s ∧ va_D A w ∧ va_S A s.heap H locs ∧ (∀ q, s.heap.size ≤ q → A q) ∧ zE t0 A s
theorem zHere.free {D : va_G} {t0 : Nat} {tys : List (ClassId × FieldType)} {w : va_W} {A : Nat → Prop} {s : State} {H : Heap} {locs : List Loc} (h : zHere D t0 tys w A s H locs) : ∀ q, va_A w H.size q → A q := by
  rintro q (⟨k, e, hk⟩ | hq)
  · exact h.2.2.1.2 k (q, e) hk
  · exact h.2.2.2.2.1 q (Nat.le_trans h.2.2.2.1.1 hq)
theorem zPre_blind {D : va_G} {t0 : Nat} {tys : List (ClassId × FieldType)} {w : va_W} {sz : Nat} {av : List Value} : FrameBlind (zPre D t0 tys w sz av) := fun a U g mk q =>
  ⟨q.1, q.2.1, q.2.2.1, va_K.moved (u := U) (U := U.calling g mk a) (Vm.Alike.refl U.vm) q.2.2.2.1, q.2.2.2.2.1, zE1.same (s := U) (U := U.calling g mk a) rfl q.2.2.2.2.2.1, zE2.moved (u := U) (U := U.calling g mk a) (Vm.Alike.refl U.vm) q.2.2.2.2.2.2⟩
theorem zPre_of {D : va_G} {t0 : Nat} {tys : List (ClassId × FieldType)} {w : va_W} {A : Nat → Prop} {s : State} {H : Heap} {locs : List Loc} {av : List Value} (h : zHere D t0 tys w A s H locs) (U : State) (hU : U.heap = H) (hW : s.WarmedH U.vm) : zPre D t0 tys w H.size av av.toArray U :=
  ⟨rfl, by rw [hU], by rw [hU]; exact h.1, va_K.moved hW.alike h.2.1, h.2.2.1.weaken (fun _ _ _ _ => trivial), h.2.2.2.2.2.call h.2.2.2.1 h.free hU hW⟩
section
variable {p : Program} {l : Launch} {e : Env} {R : Room} {s : State} {m : MethodId} {args : Array Value} {below : List Frame} {meth : Method} {c : Code} {H : Heap} {locs : List Loc} {cells slots : Nat} {Q : State → Prop} {pc : Nat} {ls : Array Slot} {st0 rest : List Value}
variable {D : va_G} {t0 : Nat} {tys : List (ClassId × FieldType)} {w : va_W} {A : Nat → Prop} {y : MethodName} {bytes cc : ByteArray} {maxL nL mc ms n index : Nat} {ret : Option FieldType} {rm : Room} {Qc : Array Value → State → Outcome → State → Prop} {XC : String → State → State → Prop} {free : Addr → Prop} {own C host : String} {b : Nat} {As : List Value}
theorem zgW {L : List Cond} (h : ∀ x ∈ L, x ∈ zB) (h5 : Cond.code y bytes maxL ret ∈ zB) : GoodIn zB (L ++ (Cond.code y bytes maxL ret :: zB)) := fun x hx => by
  have hm : x ∈ zB := by
    rcases List.mem_append.mp hx with h1 | h1
    · exact h x h1
    · rcases List.mem_cons.mp h1 with rfl | h2
      · exact h5
      · exact h2
  exact ⟨hm, zB_good hm⟩
theorem zm2 {a b : Cond} (ha : a ∈ zB) (hb : b ∈ zB) : ∀ x ∈ [a, b], x ∈ zB := by
  intro x hx
  simp only [List.mem_cons, List.not_mem_nil, or_false] at hx
  rcases hx with rfl | rfl <;> assumption
theorem zm3 {a b d : Cond} (ha : a ∈ zB) (hb : b ∈ zB) (hd : d ∈ zB) : ∀ x ∈ [a, b, d], x ∈ zB := by
  intro x hx
  simp only [List.mem_cons, List.not_mem_nil, or_false] at hx
  rcases hx with rfl | rfl | rfl <;> assumption
theorem zm4 {a b d f : Cond} (ha : a ∈ zB) (hb : b ∈ zB) (hd : d ∈ zB) (hf : f ∈ zB) : ∀ x ∈ [a, b, d, f], x ∈ zB := by
  intro x hx
  simp only [List.mem_cons, List.not_mem_nil, or_false] at hx
  rcases hx with rfl | rfl | rfl | rfl <;> assumption
abbrev zDs (y : MethodName) (n : Nat) : Prop := y.cls ≠ "java/lang/invoke/MethodHandle" ∧ y.cls ≠ "java/lang/invoke/VarHandle" ∧ (parseMethodDescriptor y.desc).map (fun d => d.parameters.length) = some n
/-- invokevirtual of a method of the receiver's own class -/
theorem zrV (S : CallFix p m c cc nL s args zB own) (hM : Met l y (Cond.code y bytes maxL ret :: zB) rm (zPre D t0 tys w H.size (.ref b :: As)) Qc mc ms free)
    (h1 : Cond.methodLink own index y ∈ zB) (h2 : Cond.instanceMethod y ∈ zB) (h3 : Cond.selects C y y ∈ zB) (h4 : Cond.initialized C ∈ zB) (h5 : Cond.code y bytes maxL ret ∈ zB) (hd : y.cls = C ∧ zDs y n) (hrc : rm.cells = mc) (hrs : rm.slots = ms) (hR : rm.frames + 1 ≤ R.frames ∧ 8 + (maxL + 11) + rm.locals ≤ R.locals)
    (hw : zHere D t0 tys w A s H locs) (hrv : ∃ cellB : Cell, H[b]? = some cellB ∧ cellB.vm.isStatics = false ∧ s.vm.findClass C = some cellB.cls)
    (hn : As.length = n) (hsize : ls.size = nL) (hst : st0 = As.reverse ++ .ref b :: rest) (hW : (rest.map fun v => v.category).sum ≤ 8) (hdg : decode cc pc = .ok (.invokevirtual index, 3)) (hf : cells + mc ≤ R.cells ∧ slots + ms ≤ R.slots) :
    va_Run p l e R s m args below meth c H locs cells slots mc ms (F0 m pc ls st0) rest (Qc (Value.ref b :: As).toArray) free :=
  va_runV (g := F0 m pc ls st0) S hM (cwV (bytes := bytes) (maxL := maxL) (ret := ret) n S.2.2.2.2 (zgW (zm4 h1 h2 h3 h4) h5) rfl hrc hrs hd hR) ⟨zPre_blind, hrv, fun U hU hW9 => zPre_of hw U hU hW9⟩ rfl hn hsize hst (lv_room hW) hdg hf
theorem zrS (S : CallFix p m c cc nL s args zB own) (hM : Met l y (Cond.code y bytes maxL ret :: zB) rm (zPre D t0 tys w H.size As) Qc mc ms free)
    (h1 : Cond.methodLink own index y ∈ zB) (h2 : Cond.static y ∈ zB) (h4 : Cond.initialized y.cls ∈ zB) (h5 : Cond.code y bytes maxL ret ∈ zB) (hd : zDs y n) (hrc : rm.cells = mc) (hrs : rm.slots = ms) (hR : rm.frames + 1 ≤ R.frames ∧ 8 + (maxL + 11) + rm.locals ≤ R.locals)
    (hw : zHere D t0 tys w A s H locs) (hn : As.length = n) (hsize : ls.size = nL) (hst : st0 = As.reverse ++ rest) (hW : (rest.map fun v => v.category).sum ≤ 8) (hdg : decode cc pc = .ok (.invokestatic index, 3)) (hf : cells + mc ≤ R.cells ∧ slots + ms ≤ R.slots) :
    va_Run p l e R s m args below meth c H locs cells slots mc ms (F0 m pc ls st0) rest (Qc As.toArray) free :=
  va_runS (g := F0 m pc ls st0) S hM (va_cwS (bytes := bytes) (maxL := maxL) (ret := ret) n S.2.2.2.2 (zgW (zm3 h1 h2 h4) h5) rfl hrc hrs hd hR) ⟨zPre_blind, fun U hU hW9 => zPre_of hw U hU hW9⟩ rfl hn hsize hst (lv_room hW) hdg hf
/-- invokevirtual of a nest mate's private method -/
theorem zrVN (S : CallFix p m c cc nL s args zB own) (hM : Met l y (Cond.code y bytes maxL ret :: zB) rm (zPre D t0 tys w H.size (.ref b :: As)) Qc mc ms free)
    (h1 : Cond.methodLinkNest own index y host ∈ zNw) (h2 : Cond.instanceMethod y ∈ zB) (h3 : Cond.selects C y y ∈ zB) (h4 : Cond.initialized y.cls ∈ zB) (h5 : Cond.code y bytes maxL ret ∈ zB) (hd : zDs y n) (hrc : rm.cells = mc) (hrs : rm.slots = ms) (hR : rm.frames + 1 ≤ R.frames ∧ 8 + (maxL + 11) + rm.locals ≤ R.locals)
    (hw : zHere D t0 tys w A s H locs) (hrv : ∃ cellB : Cell, H[b]? = some cellB ∧ cellB.vm.isStatics = false ∧ s.vm.findClass C = some cellB.cls)
    (hn : As.length = n) (hsize : ls.size = nL) (hst : st0 = As.reverse ++ .ref b :: rest) (hW : (rest.map fun v => v.category).sum ≤ 8) (hdg : decode cc pc = .ok (.invokevirtual index, 3)) (hf : cells + mc ≤ R.cells ∧ slots + ms ≤ R.slots) :
    va_Run p l e R s m args below meth c H locs cells slots mc ms (F0 m pc ls st0) rest (Qc (Value.ref b :: As).toArray) free :=
  va_runVN (g := F0 m pc ls st0) (host := host) (C := C) S hM ⟨va_cnB (bytes := bytes) (maxL := maxL) (ret := ret) n S.2.2.2.2 (zgW (L := []) (fun _ h => absurd h List.not_mem_nil) h5) rfl hrc hrs (hw.2.2.2.2.2.1.1 _ h1) (S.2.2.2.2 _ h4) hd hR, S.2.2.2.2 _ h2, S.2.2.2.2 _ h3⟩ ⟨zPre_blind, hrv, fun U hU hW9 => zPre_of hw U hU hW9⟩ rfl hn hsize hst (lv_room hW) hdg hf
theorem zrIN (S : CallFix p m c cc nL s args zB own) (hM : Met l y (Cond.code y bytes maxL none :: zB) rm (zPre D t0 tys w H.size (.ref b :: As)) Qc mc ms free)
    (h1 : Cond.methodLinkNest own index y host ∈ zNw) (h2 : Cond.instanceMethod y ∈ zB) (h4 : Cond.initialized y.cls ∈ zB) (h5 : Cond.code y bytes maxL none ∈ zB) (hi : y.name = "<init>") (hd : zDs y n) (hrc : rm.cells = mc) (hrs : rm.slots = ms) (hR : rm.frames + 1 ≤ R.frames ∧ 8 + (maxL + 11) + rm.locals ≤ R.locals)
    (hw : zHere D t0 tys w A s H locs)
    (hn : As.length = n) (hsize : ls.size = nL) (hst : st0 = As.reverse ++ .ref b :: rest) (hW : (rest.map fun v => v.category).sum ≤ 8) (hdg : decode cc pc = .ok (.invokespecial index, 3)) (hf : cells + mc ≤ R.cells ∧ slots + ms ≤ R.slots) :
    va_Run p l e R s m args below meth c H locs cells slots mc ms (F0 m pc ls st0) rest (Qc (Value.ref b :: As).toArray) free :=
  va_runIN (g := F0 m pc ls st0) (host := host) S hM ⟨va_cnB (bytes := bytes) (maxL := maxL) (ret := none) n S.2.2.2.2 (zgW (L := []) (fun _ h => absurd h List.not_mem_nil) h5) rfl hrc hrs (hw.2.2.2.2.2.1.1 _ h1) (S.2.2.2.2 _ h4) hd hR, hi, S.2.2.2.2 _ h2⟩ ⟨zPre_blind, fun U hU hW9 => zPre_of hw U hU hW9⟩ rfl hn hsize hst (lv_room hW) hdg hf
/-- callees that may throw -/
theorem zxV (S : CallFix p m c cc nL s args zB own) (hM : vx_Met l y (Cond.code y bytes maxL ret :: zB) rm (zPre D t0 tys w H.size (.ref b :: As)) Qc XC mc ms free)
    (h1 : Cond.methodLink own index y ∈ zB) (h2 : Cond.instanceMethod y ∈ zB) (h3 : Cond.selects C y y ∈ zB) (h4 : Cond.initialized C ∈ zB) (h5 : Cond.code y bytes maxL ret ∈ zB) (hd : y.cls = C ∧ zDs y n) (hrc : rm.cells = mc) (hrs : rm.slots = ms) (hR : rm.frames + 1 ≤ R.frames ∧ 8 + (maxL + 11) + rm.locals ≤ R.locals)
    (hw : zHere D t0 tys w A s H locs) (hrv : ∃ cellB : Cell, H[b]? = some cellB ∧ cellB.vm.isStatics = false ∧ s.vm.findClass C = some cellB.cls)
    (hn : As.length = n) (hsize : ls.size = nL) (hst : st0 = As.reverse ++ .ref b :: rest) (hW : (rest.map fun v => v.category).sum ≤ 8) (hdg : decode cc pc = .ok (.invokevirtual index, 3)) (hf : cells + mc ≤ R.cells ∧ slots + ms ≤ R.slots) :
    vx_Run p l e R s m args below meth c H locs cells slots mc ms (F0 m pc ls st0) rest (Qc (Value.ref b :: As).toArray) XC free :=
  vx_runV (g := F0 m pc ls st0) S hM (cwV (bytes := bytes) (maxL := maxL) (ret := ret) n S.2.2.2.2 (zgW (zm4 h1 h2 h3 h4) h5) rfl hrc hrs hd hR) ⟨zPre_blind, hrv, fun U hU hW9 => zPre_of hw U hU hW9⟩ rfl hn hsize hst (lv_room hW) hdg hf
theorem zxS (S : CallFix p m c cc nL s args zB own) (hM : vx_Met l y (Cond.code y bytes maxL ret :: zB) rm (zPre D t0 tys w H.size As) Qc XC mc ms free)
    (h1 : Cond.methodLink own index y ∈ zB) (h2 : Cond.static y ∈ zB) (h4 : Cond.initialized y.cls ∈ zB) (h5 : Cond.code y bytes maxL ret ∈ zB) (hd : zDs y n) (hrc : rm.cells = mc) (hrs : rm.slots = ms) (hR : rm.frames + 1 ≤ R.frames ∧ 8 + (maxL + 11) + rm.locals ≤ R.locals)
    (hw : zHere D t0 tys w A s H locs) (hn : As.length = n) (hsize : ls.size = nL) (hst : st0 = As.reverse ++ rest) (hW : (rest.map fun v => v.category).sum ≤ 8) (hdg : decode cc pc = .ok (.invokestatic index, 3)) (hf : cells + mc ≤ R.cells ∧ slots + ms ≤ R.slots) :
    vx_Run p l e R s m args below meth c H locs cells slots mc ms (F0 m pc ls st0) rest (Qc As.toArray) XC free :=
  vx_runS (g := F0 m pc ls st0) S hM (va_cwS (bytes := bytes) (maxL := maxL) (ret := ret) n S.2.2.2.2 (zgW (zm3 h1 h2 h4) h5) rfl hrc hrs hd hR) ⟨zPre_blind, fun U hU hW9 => zPre_of hw U hU hW9⟩ rfl hn hsize hst (lv_room hW) hdg hf
end
