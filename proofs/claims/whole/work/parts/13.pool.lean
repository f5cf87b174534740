-- the pool of blocks: a field set, a block more; calls that leave another world
theorem zF_rc {z : ZT} {a : Nat} {v : Bool} : va_up (zF z) a (.inr (1, ([.int (nI (z_bs z a)), .int (nI (z_bz z a)), .int (zb (z_kp z a)), .int (zb (z_rc z a))] : List Value).set 3 (.int (zb v)))) = zF (zu_rc z (va_up (z_rc z) a v)) := by
  funext b
  by_cases e : b = a
  · subst e
    rw [va_up_self]
    unfold zF
    show (Sum.inr (1, [Value.int (nI (z_bs z b)), Value.int (nI (z_bz z b)), Value.int (zb (z_kp z b)), Value.int (zb v)]) : va_E) = Sum.inr (1, [Value.int (nI (z_bs z b)), Value.int (nI (z_bz z b)), Value.int (zb (z_kp z b)), Value.int (zb (va_up (z_rc z) b v b))])
    rw [va_up_self]
  · rw [va_up_ne _ _ e]
    unfold zF
    show (Sum.inr (1, [Value.int (nI (z_bs z b)), Value.int (nI (z_bz z b)), Value.int (zb (z_kp z b)), Value.int (zb (z_rc z b))]) : va_E) = Sum.inr (1, [Value.int (nI (z_bs z b)), Value.int (nI (z_bz z b)), Value.int (zb (z_kp z b)), Value.int (zb (va_up (z_rc z) a v b))])
    rw [va_up_ne _ _ e]
theorem zF_kp {z : ZT} {a : Nat} {v : Bool} : va_up (zF z) a (.inr (1, ([.int (nI (z_bs z a)), .int (nI (z_bz z a)), .int (zb (z_kp z a)), .int (zb (z_rc z a))] : List Value).set 2 (.int (zb v)))) = zF (zu_kp z (va_up (z_kp z) a v)) := by
  funext b
  by_cases e : b = a
  · subst e
    rw [va_up_self]
    unfold zF
    show (Sum.inr (1, [Value.int (nI (z_bs z b)), Value.int (nI (z_bz z b)), Value.int (zb v), Value.int (zb (z_rc z b))]) : va_E) = Sum.inr (1, [Value.int (nI (z_bs z b)), Value.int (nI (z_bz z b)), Value.int (zb (va_up (z_kp z) b v b)), Value.int (zb (z_rc z b))])
    rw [va_up_self]
  · rw [va_up_ne _ _ e]
    unfold zF
    show (Sum.inr (1, [Value.int (nI (z_bs z b)), Value.int (nI (z_bz z b)), Value.int (zb (z_kp z b)), Value.int (zb (z_rc z b))]) : va_E) = Sum.inr (1, [Value.int (nI (z_bs z b)), Value.int (nI (z_bz z b)), Value.int (zb (va_up (z_kp z) a v b)), Value.int (zb (z_rc z b))])
    rw [va_up_ne _ _ e]
theorem zset_rc {A : Nat → Prop} {t0 : Nat} {g : ZG} {z : ZT} {a k : Nat} {v : Bool} (hD : va_D A (zW t0 g z)) (h : a ∈ z_LB z) (hk : (zW t0 g z)[k]? = some (a, zF z a)) :
    (zW t0 g z).set k (a, .inr (1, ([.int (nI (z_bs z a)), .int (nI (z_bz z a)), .int (zb (z_kp z a)), .int (zb (z_rc z a))] : List Value).set 3 (.int (zb v)))) = zW t0 g (zu_rc z (va_up (z_rc z) a v)) := by
  unfold zW at hD hk
  show ((zX t0 g z ++ zwe z) ++ va_pl (z_LB z) (zF z)).set k _ = (zX t0 g z ++ zwe z) ++ va_pl (z_LB z) (zF (zu_rc z (va_up (z_rc z) a v)))
  rw [va_pl_set hD h hk, zF_rc]
theorem zset_kp {A : Nat → Prop} {t0 : Nat} {g : ZG} {z : ZT} {a k : Nat} {v : Bool} (hD : va_D A (zW t0 g z)) (h : a ∈ z_LB z) (hk : (zW t0 g z)[k]? = some (a, zF z a)) :
    (zW t0 g z).set k (a, .inr (1, ([.int (nI (z_bs z a)), .int (nI (z_bz z a)), .int (zb (z_kp z a)), .int (zb (z_rc z a))] : List Value).set 2 (.int (zb v)))) = zW t0 g (zu_kp z (va_up (z_kp z) a v)) := by
  unfold zW at hD hk
  show ((zX t0 g z ++ zwe z) ++ va_pl (z_LB z) (zF z)).set k _ = (zX t0 g z ++ zwe z) ++ va_pl (z_LB z) (zF (zu_kp z (va_up (z_kp z) a v)))
  rw [va_pl_set hD h hk, zF_kp]
/-- the state with a block more -/
def zq_new (z : ZT) (q b n : Nat) : ZT := (zmk (z_oct z) (z_tk z) (z_ko z) (z_lb z) (z_lo z) (z_mb z) (z_rb z) (z_rn z) (z_lf z) (z_ln z) (z_md z) (z_cE z) (z_aE z) (z_cap z) (z_kl z) (z_LB z ++ [q]) (va_up (z_bs z) q b) (va_up (z_bz z) q n) (va_up (z_kp z) q false) (va_up (z_rc z) q false))
theorem zF_new {z : ZT} {q b n : Nat} : va_up (zF z) q (.inr (1, [.int (nI b), .int (nI n), .int (zb false), .int (zb false)])) = zF (zq_new z q b n) := by
  funext x
  have hz : zF (zq_new z q b n) x = (Sum.inr (1, [Value.int (nI (va_up (z_bs z) q b x)), Value.int (nI (va_up (z_bz z) q n x)), Value.int (zb (va_up (z_kp z) q false x)), Value.int (zb (va_up (z_rc z) q false x))]) : va_E) := rfl
  rw [hz]
  by_cases e : x = q
  · subst e
    simp only [va_up_self]
  · simp only [va_up_ne _ _ e]
    rfl
theorem zW_new {A : Nat → Prop} {t0 : Nat} {g : ZG} {z : ZT} {q b n : Nat} (hq : q ∉ z_LB z) : zW t0 g z ++ [(q, .inr (1, [.int (nI b), .int (nI n), .int (zb false), .int (zb false)]))] = zW t0 g (zq_new z q b n) := by
  show ((zX t0 g z ++ zwe z) ++ va_pl (z_LB z) (zF z)) ++ _ = (zX t0 g z ++ zwe z) ++ va_pl (z_LB z ++ [q]) (zF (zq_new z q b n))
  rw [List.append_assoc, va_pl_push hq, zF_new]
theorem zfresh {A : Nat → Prop} {t0 : Nat} {g : ZG} {z : ZT} {q : Nat} {e : va_E} (hD : va_D A (zW t0 g z ++ [(q, e)])) : q ∉ z_LB z := va_pl_fresh2 (X := zX t0 g z ++ zwe z) (f := zF z) hD
theorem zlast {w : va_W} {x : Nat × va_E} : (w ++ [x])[w.length]? = some x := by simp
theorem zlset {w : va_W} {x y : Nat × va_E} : (w ++ [x]).set w.length y = w ++ [y] := by
  rw [List.set_append_right _ _ (Nat.le_refl _), Nat.sub_self]
  rfl
section
variable {p : Program} {l : Launch} {e : Env} {R : Room} {s : State} {m : MethodId} {args : Array Value} {below : List Frame} {meth : Method} {c : Code} {H : Heap} {locs : List Loc} {cells slots : Nat} {Q : State → Prop} {pc : Nat} {ls : Array Slot} {st0 rest : List Value}
variable {D : va_G} {t0 : Nat} {tys : List (ClassId × FieldType)} {w : va_W} {A : Nat → Prop} {mc ms : Nat} {a : Array Value} {U : Type} {T9 : U → List (ClassId × FieldType)} {w9 : U → va_W}
theorem zcv {post : U → Prop} (hr : va_Run p l e R s m args below meth c H locs cells slots mc ms (F0 m pc ls st0) rest (va_Qv post (fun u t => zPost D (T9 u) (va_A w H.size) (w9 u) t) (va_A w H.size) a) (va_A w H.size)) (hw : zHere D t0 tys w A s H locs)
    (kk : ∀ (u : U) (H1 : Heap) (locs1 : List Loc), post u → va_P D zcl (w9 u) H1 → va_K D zcl (T9 u) s → va_D A (w9 u) → va_S A s.heap H1 locs1 → W p l e R s m args below meth c H1 locs1 (cells + mc) (slots + ms) Q (F0 m (pc + 3) ls rest)) : W p l e R s m args below meth c H locs cells slots Q (F0 m pc ls st0) :=
  va_callv hr hw.2.2.2.1 (fun q _ h => hw.free q h) hw.free (fun u t H1 locs1 ht hvm hp hB _ _ hS1 => kk u H1 locs1 hp (by rw [← ht]; exact hB.1) (va_K.moved hvm.symm hB.2.1) (hB.2.2.weaken (fun _ q _ h => hw.free q.1 h)) hS1)
theorem zci {post : Int32 → U → Prop} (hr : va_Run p l e R s m args below meth c H locs cells slots mc ms (F0 m pc ls st0) rest (va_Qi post (fun u t => zPost D (T9 u) (va_A w H.size) (w9 u) t) (va_A w H.size) a) (va_A w H.size)) (hw : zHere D t0 tys w A s H locs)
    (kk : ∀ (r : Int32) (u : U) (H1 : Heap) (locs1 : List Loc), post r u → va_P D zcl (w9 u) H1 → va_K D zcl (T9 u) s → va_D A (w9 u) → va_S A s.heap H1 locs1 → W p l e R s m args below meth c H1 locs1 (cells + mc) (slots + ms) Q (F0 m (pc + 3) ls (.int r :: rest))) : W p l e R s m args below meth c H locs cells slots Q (F0 m pc ls st0) :=
  va_calli hr hw.2.2.2.1 (fun q _ h => hw.free q h) hw.free (fun r u t H1 locs1 ht hvm hp hB _ _ hS1 => kk r u H1 locs1 hp (by rw [← ht]; exact hB.1) (va_K.moved hvm.symm hB.2.1) (hB.2.2.weaken (fun _ q _ h => hw.free q.1 h)) hS1)
theorem zcq {post : Option Nat → U → Prop} (hr : va_Run p l e R s m args below meth c H locs cells slots mc ms (F0 m pc ls st0) rest (va_Qq post (fun u t => zPost D (T9 u) (va_A w H.size) (w9 u) t) (va_A w H.size) a) (va_A w H.size)) (hw : zHere D t0 tys w A s H locs)
    (kk : ∀ (r : Option Nat) (u : U) (H1 : Heap) (locs1 : List Loc), post r u → va_P D zcl (w9 u) H1 → va_K D zcl (T9 u) s → va_D A (w9 u) → va_S A s.heap H1 locs1 → W p l e R s m args below meth c H1 locs1 (cells + mc) (slots + ms) Q (F0 m (pc + 3) ls (va_rf r :: rest))) : W p l e R s m args below meth c H locs cells slots Q (F0 m pc ls st0) :=
  va_callq hr hw.2.2.2.1 (fun q _ h => hw.free q h) hw.free (fun r u t H1 locs1 ht hvm hp hB _ _ hS1 => kk r u H1 locs1 hp (by rw [← ht]; exact hB.1) (va_K.moved hvm.symm hB.2.1) (hB.2.2.weaken (fun _ q _ h => hw.free q.1 h)) hS1)
end
theorem zt_set_0 {tk : Nat → Option Nat} {c : Nat} {v : Option Nat} : zt_set tk c 0 v = tk := by
  funext k
  unfold zt_set
  rw [if_neg (by omega)]
theorem zt_set_s {tk : Nat → Option Nat} {c j : Nat} {v : Option Nat} : va_up (zt_set tk c j v) (c + j) v = zt_set tk c (j + 1) v := by
  funext k
  unfold va_up zt_set
  by_cases e : k = c + j
  · subst e
    rw [if_pos rfl, if_pos (by omega)]
  · rw [if_neg e]
    by_cases h : c ≤ k ∧ k < c + j
    · rw [if_pos h, if_pos (by omega)]
    · rw [if_neg h, if_neg (by omega)]
