-- lost: both sides find the least set that is closed under leading
theorem zchoose {P : Nat → Nat → Prop} {m : Nat} (h : ∀ j, j < m → ∃ k, P j k) : ∃ f : Nat → Nat, ∀ j, j < m → P j (f j) := by
  refine ⟨fun j => if q : j < m then Classical.choose (h j q) else 0, fun j hj => ?_⟩
  show P j (if q : j < m then Classical.choose (h j q) else 0)
  rw [dif_pos hj]
  exact Classical.choose_spec (h j hj)
def lJ (z : ZT) (y : MT) (ad : Nat → Nat) (v1 v2 : Int32) (t : T3) : Prop :=
  (∀ j : Nat, j < t.2.2 → ∃ k : Nat, k < m_many y ∧ t.2.1 j = some (ad k) ∧ t.1 (ad k) = true) ∧
  (∀ a ∈ z_LB z, t.1 a = true → ∃ j : Nat, j < t.2.2 ∧ t.2.1 j = some a) ∧
  (∀ i j : Nat, i < t.2.2 → j < t.2.2 → t.2.1 i = t.2.1 j → i = j) ∧
  (∀ k : Nat, k < m_many y → t.1 (ad k) = true → mleast y v1 v2 k)
def lE (t t' : T3) : Prop := (∀ a, t.1 a = true → t'.1 a = true) ∧ t.2.2 ≤ t'.2.2 ∧ ∀ j : Nat, j < t.2.2 → t'.2.1 j = t.2.1 j
theorem lE.rf {t : T3} : lE t t := ⟨fun _ h => h, Nat.le_refl _, fun _ _ => rfl⟩
theorem lE.tr {t t' t'' : T3} (h : lE t t') (h' : lE t' t'') : lE t t'' := ⟨fun a q => h'.1 a (h.1 a q), Nat.le_trans h.2.1 h'.2.1, fun j hj => (h'.2.2 j (Nat.lt_of_lt_of_le hj h.2.1)).trans (h.2.2 j hj)⟩
section
variable {ad : Nat → Nat} {z : ZT} {y : MT} {v1 v2 : Int32} {t : T3}
theorem lJ.rn (h : lJ z y ad v1 v2 t) : t.2.2 ≤ m_many y := by
  obtain ⟨f, hf⟩ := zchoose h.1
  refine zpig (f := f) (fun i hi => (hf i hi).1) (fun i j hi hj e => h.2.2.1 i j hi hj ?_)
  rw [(hf i hi).2.1, (hf j hj).2.1, e]
theorem lJ.new (h : lJ z y ad v1 v2 t) {k : Nat} (hk : k < m_many y) (hn : t.1 (ad k) = false) : t.2.2 + 1 ≤ m_many y := by
  obtain ⟨f, hf⟩ := zchoose h.1
  have hne : ∀ j, j < t.2.2 → f j ≠ k := fun j hj e => by
    have := (hf j hj).2.2
    rw [e, hn] at this
    cases this
  refine zpig (f := fun j => if j < t.2.2 then f j else k) (fun i hi => ?_) (fun i j hi hj e => ?_)
  · show (if i < t.2.2 then f i else k) < m_many y
    split
    · rename_i q
      exact (hf i q).1
    · exact hk
  · have e : (if i < t.2.2 then f i else k) = (if j < t.2.2 then f j else k) := e
    by_cases a : i < t.2.2
    · by_cases b : j < t.2.2
      · rw [if_pos a, if_pos b] at e
        exact h.2.2.1 i j a b (by rw [(hf i a).2.1, (hf j b).2.1, e])
      · rw [if_pos a, if_neg b] at e
        exact absurd e (hne i a)
    · by_cases b : j < t.2.2
      · rw [if_neg a, if_pos b] at e
        exact absurd e.symm (hne j b)
      · omega
theorem lJ.reach (h : lJ z y ad v1 v2 t) (hr : rl ad z y) (hz : zOK z) (hy : mOK y) {v : Int32} (hv : ∀ k : Nat, k < m_many y → mlead y v k → mleast y v1 v2 k) :
    lJ z y ad v1 v2 (zr3 z v t) ∧ lE t (zr3 z v t) ∧ ∀ k : Nat, k < m_many y → mlead y v k → (zr3 z v t).1 (ad k) = true := by
  unfold zr3
  cases hl : zq_led z v with
  | none =>
    refine ⟨h, lE.rf, fun k hk q => ?_⟩
    rw [(hr.led hz hy).mpr ⟨k, hk, rfl, q⟩] at hl
    cases hl
  | some a =>
    obtain ⟨k, hk, ea, hlk⟩ := (hr.led hz hy).mp hl
    have all : ∀ {t' : T3}, t'.1 (ad k) = true → ∀ k' : Nat, k' < m_many y → mlead y v k' → t'.1 (ad k') = true := fun {t'} q k' hk' q' => by
      rw [mlead_one hy hk' hk q' hlk]
      exact q
    show lJ z y ad v1 v2 (if t.1 a = true ∨ 255 ≤ t.2.2 then t else (va_up t.1 a true, va_up t.2.1 t.2.2 (some a), t.2.2 + 1)) ∧ lE t (if t.1 a = true ∨ 255 ≤ t.2.2 then t else (va_up t.1 a true, va_up t.2.1 t.2.2 (some a), t.2.2 + 1)) ∧ ∀ k : Nat, k < m_many y → mlead y v k → (if t.1 a = true ∨ 255 ≤ t.2.2 then t else (va_up t.1 a true, va_up t.2.1 t.2.2 (some a), t.2.2 + 1)).1 (ad k) = true
    cases hta : t.1 a with
    | true =>
      rw [if_pos (Or.inl rfl)]
      exact ⟨h, lE.rf, all (by rw [← ea]; exact hta)⟩
    | false =>
      have hnw := h.new hk (by rw [← ea]; exact hta)
      have hmy := hy.many
      rw [if_neg (by rintro (q | q); (cases q); omega)]
      obtain ⟨j1, j2, j3, j4⟩ := h
      have hno : ∀ j : Nat, j < t.2.2 → t.2.1 j ≠ some a := fun j hj q => by
        obtain ⟨k', -, e1, e2⟩ := j1 j hj
        rw [q] at e1
        rw [← Option.some.inj e1, hta] at e2
        cases e2
      refine ⟨⟨fun j hj => ?_, fun b hb hrb => ?_, fun i j hi hj e => ?_, fun k' hk' q => ?_⟩, ⟨fun b q => ?_, Nat.le_succ _, fun j hj => va_up_ne _ _ (by omega)⟩, all (by rw [← ea]; exact va_up_self _ _ _)⟩
      · have hj : j < t.2.2 + 1 := hj
        show ∃ k : Nat, k < m_many y ∧ va_up t.2.1 t.2.2 (some a) j = some (ad k) ∧ va_up t.1 a true (ad k) = true
        by_cases e : j = t.2.2
        · rw [e, va_up_self]
          exact ⟨k, hk, by rw [ea], by rw [← ea]; exact va_up_self _ _ _⟩
        · obtain ⟨k', hk', e1, e2⟩ := j1 j (by omega)
          refine ⟨k', hk', by rw [va_up_ne _ _ e]; exact e1, ?_⟩
          by_cases e3 : ad k' = a
          · rw [e3]; exact va_up_self _ _ _
          · rw [va_up_ne _ _ e3]; exact e2
      · have hrb : va_up t.1 a true b = true := hrb
        show ∃ j : Nat, j < t.2.2 + 1 ∧ va_up t.2.1 t.2.2 (some a) j = some b
        by_cases e : b = a
        · exact ⟨t.2.2, by omega, by rw [va_up_self, e]⟩
        · rw [va_up_ne _ _ e] at hrb
          obtain ⟨j, hj, q⟩ := j2 b hb hrb
          exact ⟨j, by omega, by rw [va_up_ne _ _ (by omega)]; exact q⟩
      · have hi : i < t.2.2 + 1 := hi
        have hj : j < t.2.2 + 1 := hj
        have e : va_up t.2.1 t.2.2 (some a) i = va_up t.2.1 t.2.2 (some a) j := e
        by_cases a1 : i = t.2.2
        · by_cases a2 : j = t.2.2
          · omega
          · rw [a1, va_up_self, va_up_ne _ _ a2] at e
            exact absurd e.symm (hno j (by omega))
        · by_cases a2 : j = t.2.2
          · rw [a2, va_up_self, va_up_ne _ _ a1] at e
            exact absurd e (hno i (by omega))
          · rw [va_up_ne _ _ a1, va_up_ne _ _ a2] at e
            exact j3 i j (by omega) (by omega) e
      · have q : va_up t.1 a true (ad k') = true := q
        by_cases e : ad k' = a
        · rw [hr.inj hk' hk (by rw [e, ea])]
          exact hv k hk hlk
        · rw [va_up_ne _ _ e] at q
          exact j4 k' hk' q
      · show va_up t.1 a true b = true
        by_cases e : b = a
        · rw [e]; exact va_up_self _ _ _
        · rw [va_up_ne _ _ e]; exact q
theorem lJ.words (h : lJ z y ad v1 v2 t) (hr : rl ad z y) (hz : zOK z) (hy : mOK y) (ho : z_oct z = m_oct y) {k : Nat} (hk : k < m_many y) (hl : mleast y v1 v2 k) : ∀ n : Nat, 4 * n ≤ m_sz y k →
    lJ z y ad v1 v2 (zw3 z (ad k) t n) ∧ lE t (zw3 z (ad k) t n) ∧ ∀ i j : Nat, i < n → j < m_many y → mlead y (nI (zwd (m_oct y) (m_pl y k + 4 * i))) j → (zw3 z (ad k) t n).1 (ad j) = true
  | 0, _ => ⟨h, lE.rf, fun i j hi => by omega⟩
  | n + 1, hn => by
    obtain ⟨a1, a2, a3⟩ := lJ.words h hr hz hy ho hk hl n (by omega)
    have hv : nI (zwd (z_oct z) (z_bs z (ad k) + 4 * n)) = nI (zwd (m_oct y) (m_pl y k + 4 * n)) := by rw [ho, (hr.blk hz hy hk).2.1]
    obtain ⟨b1, b2, b3⟩ := a1.reach hr hz hy (v := nI (zwd (m_oct y) (m_pl y k + 4 * n))) (fun j hj q => hl.edge hk hj ⟨n, by omega, q⟩)
    show lJ z y ad v1 v2 (zr3 z (nI (zwd (z_oct z) (z_bs z (ad k) + 4 * n))) (zw3 z (ad k) t n)) ∧ lE t (zr3 z (nI (zwd (z_oct z) (z_bs z (ad k) + 4 * n))) (zw3 z (ad k) t n)) ∧ ∀ i j : Nat, i < n + 1 → j < m_many y → mlead y (nI (zwd (m_oct y) (m_pl y k + 4 * i))) j → (zr3 z (nI (zwd (z_oct z) (z_bs z (ad k) + 4 * n))) (zw3 z (ad k) t n)).1 (ad j) = true
    rw [hv]
    refine ⟨b1, a2.tr b2, fun i j hi hj q => ?_⟩
    by_cases e : i = n
    · rw [e] at q
      exact b3 j hj q
    · exact b2.1 _ (a3 i j (by omega) hj q)
/-- the blocks that the first i reached ones lead to are reached -/
def lX (y : MT) (ad : Nat → Nat) (t : T3) (i : Nat) : Prop := ∀ c k j : Nat, c < i → k < m_many y → j < m_many y → t.2.1 c = some (ad k) → medge y k j → t.1 (ad j) = true
theorem lJ.all (hr : rl ad z y) (hz : zOK z) (hy : mOK y) (ho : z_oct z = m_oct y) : ∀ (d i : Nat) (t : T3), i + d = 255 → lJ z y ad v1 v2 t → lX y ad t i → i ≤ t.2.2 →
    lJ z y ad v1 v2 (zs3 z (256 - i) i t) ∧ lE t (zs3 z (256 - i) i t) ∧ lX y ad (zs3 z (256 - i) i t) (zs3 z (256 - i) i t).2.2 := by
  intro d
  induction d with
  | zero =>
    intro i t hd h hx hi
    have h1 := h.rn
    have h2 := hy.many
    rw [zs3_stop (by omega) (by omega)]
    exact ⟨h, lE.rf, fun c k j hc => hx c k j (by omega)⟩
  | succ d ih =>
    intro i t hd h hx hi
    have h1 := h.rn
    have h2 := hy.many
    by_cases hlt : i < t.2.2
    · obtain ⟨k, hk, e1, e2⟩ := h.1 i hlt
      have hlk := h.2.2.2 k hk e2
      obtain ⟨c1, c2, c3, c4⟩ := hr.blk hz hy hk
      rw [zs3_step ⟨hlt, by omega⟩ e1, c3]
      obtain ⟨b1, b2, b3⟩ := h.words hr hz hy ho hk hlk (m_sz y k / 4) (by omega)
      have hx' : lX y ad (zw3 z (ad k) t (m_sz y k / 4)) (i + 1) := fun c k' j hc hk' hj q1 q2 => by
        by_cases e : c = i
        · rw [e, b2.2.2 i hlt, e1] at q1
          rw [← hr.inj hk hk' (Option.some.inj q1)] at q2
          obtain ⟨w, hw, q2⟩ := q2
          exact b3 w j (by omega) hj q2
        · rw [b2.2.2 c (by omega)] at q1
          exact b2.1 _ (hx c k' j (by omega) hk' hj q1 q2)
      obtain ⟨a1, a2, a3⟩ := ih (i + 1) (zw3 z (ad k) t (m_sz y k / 4)) (by omega) b1 hx' (Nat.le_trans hlt b2.2.1)
      exact ⟨a1, b2.tr a2, a3⟩
    · rw [zs3_stop (by omega) (by omega)]
      exact ⟨h, lE.rf, fun c k j hc => hx c k j (by omega)⟩
theorem zq_frc_in {a : Nat} : ∀ {n : Nat}, zq_frc z n a = true → z_rc z a = true ∧ ∀ j : Nat, j < n → z_rb z j ≠ some a
  | 0, h => ⟨h, fun j hj => by omega⟩
  | n + 1, h => by
    have h : (match z_rb z n with | some b => va_up (zq_frc z n) b false | none => zq_frc z n) a = true := h
    cases e : z_rb z n with
    | none =>
      rw [e] at h
      obtain ⟨h1, h2⟩ := zq_frc_in (n := n) h
      refine ⟨h1, fun j hj q => ?_⟩
      by_cases ej : j = n
      · rw [ej, e] at q
        cases q
      · exact h2 j (by omega) q
    | some b =>
      rw [e] at h
      have h : va_up (zq_frc z n) b false a = true := h
      by_cases eb : a = b
      · rw [eb, va_up_self] at h
        cases h
      · rw [va_up_ne _ _ eb] at h
        obtain ⟨h1, h2⟩ := zq_frc_in (n := n) h
        refine ⟨h1, fun j hj q => ?_⟩
        by_cases ej : j = n
        · rw [ej, e] at q
          exact eb (Option.some.inj q).symm
        · exact h2 j (by omega) q
theorem lJ.start (hR : rlR z) (hr : rl ad z y) (hz : zOK z) (hy : mOK y) : lJ z y ad v1 v2 (zq_frc z (z_rn z), z_rb z, 0) := by
  have no : ∀ a ∈ z_LB z, ¬ zq_frc z (z_rn z) a = true := fun a ha q => by
    obtain ⟨q1, q2⟩ := zq_frc_in q
    obtain ⟨j, hj, e⟩ := hR a ha q1
    exact q2 j hj e
  exact ⟨fun j hj => absurd hj (Nat.not_lt_zero _), fun a ha q => absurd q (no a ha), fun i j hi => absurd hi (Nat.not_lt_zero _), fun k hk q => absurd q (no _ (hr.blk hz hy hk).1)⟩
/-- what the class has reached in the end -/
theorem rl.t3 (hr : rl ad z y) (hR : rlR z) (hz : zOK z) (hy : mOK y) (ho : z_oct z = m_oct y) : lJ z y ad v1 v2 (zq_t3 z v1 v2) ∧ ∀ k : Nat, k < m_many y → ((zq_t3 z v1 v2).1 (ad k) = true ↔ mleast y v1 v2 k) := by
  have s0 := lJ.start (v1 := v1) (v2 := v2) hR hr hz hy
  obtain ⟨a1, a2, a3⟩ := s0.reach hr hz hy (v := v1) (fun k hk q => fun S h1 _ _ => h1 k hk q)
  obtain ⟨b1, b2, b3⟩ := a1.reach hr hz hy (v := v2) (fun k hk q => fun S _ h2 _ => h2 k hk q)
  obtain ⟨c1, c2, c3⟩ := lJ.all hr hz hy ho 255 0 _ rfl b1 (fun c k j hc => absurd hc (Nat.not_lt_zero _)) (Nat.zero_le _)
  have e : zq_t3 z v1 v2 = zs3 z (256 - 0) 0 (zr3 z v2 (zr3 z v1 (zq_frc z (z_rn z), z_rb z, 0))) := rfl
  rw [← e] at c1 c2 c3
  refine ⟨c1, fun k hk => ⟨c1.2.2.2 k hk, fun q => ?_⟩⟩
  refine q (fun j => j < m_many y → (zq_t3 z v1 v2).1 (ad j) = true) (fun j hj q _ => c2.1 _ (b2.1 _ (a3 j hj q))) (fun j hj q _ => c2.1 _ (b3 j hj q)) (fun i j hi hj q1 q2 _ => ?_) hk
  obtain ⟨c, hc, e⟩ := c1.2.1 _ (hr.blk hz hy hi).1 (q1 hi)
  exact c3 c i j hc hi hj e q2
end
theorem mlist.uniq {P : Nat → Prop} {i n n' : Nat} {f f' : Nat → Nat} (h : mlist P i n f) (h' : mlist P i n' f') : n = n' ∧ ∀ j, j < n → f j = f' j := by
  have e : n = n' := Nat.le_antisymm (h.le (fun y hy q => h'.2.1 y hy q)) (h'.le (fun y hy q => h.2.1 y hy q))
  refine ⟨e, fun j => ?_⟩
  induction j using Nat.strongRecOn with
  | _ j ih =>
    intro hj
    have half : ∀ {f f' : Nat → Nat} {n n' : Nat}, mlist P i n f → mlist P i n' f' → n = n' → j < n → (∀ k, k < j → f k = f' k) → f' j ≤ f j := fun {f f' n n'} h h' e hj ih => by
      obtain ⟨y, hy, hP, ey⟩ := h.1 j hj
      obtain ⟨k, hk, ek⟩ := h'.2.1 y hy hP
      by_cases q : k < j
      · have a := h.2.2 k j q hj
        rw [ih k q] at a
        omega
      · by_cases q2 : j = k
        · rw [← q2] at ek
          omega
        · have := h'.2.2 j k (by omega) hk
          omega
    exact Nat.le_antisymm (half h' h e.symm (e ▸ hj) (fun k hk => (ih k hk (by omega)).symm)) (half h h' e hj (fun k hk => ih k hk (by omega)))
section
variable {ad : Nat → Nat} {z : ZT} {y : MT}
theorem rl.lostP (h : rl ad z y) (hz : zOK z) (hy : mOK y) {t : T3} {rs : Nat → Bool} (hrs : ∀ k : Nat, k < m_many y → rs k = t.1 (ad k)) {c : Nat} (hc : c < 512) : zq_lostP (z3 z t) c = true ↔ mlp y rs c := by
  have e0 : zq_st (z3 z t) (nI (16 * c)) = zq_st z (nI (16 * c)) := rfl
  unfold zq_lostP
  rw [e0]
  constructor
  · intro q
    cases e : zq_st z (nI (16 * c)) with
    | none =>
      rw [e] at q
      cases q
    | some a =>
      rw [e] at q
      have q : (!z_kp z a && !t.1 a) = true := q
      obtain ⟨k, hk, ea, ev⟩ := (h.st hz hy).mp e
      have hat := hy.at hk
      have ep : 16 * c = m_pl y k := (nI_eq (by omega) (by omega)).mp ev
      rw [ea, (h.blk hz hy hk).2.2.2, ← hrs k hk] at q
      refine ⟨k, hk, ep.symm, ?_, ?_⟩
      · by_cases e2 : m_sta y k = 2
        · rw [decide_eq_true e2] at q
          cases q
        · omega
      · cases e3 : rs k with
        | false => rfl
        | true =>
          rw [e3] at q
          simp at q
  · rintro ⟨k, hk, ep, e1, e2⟩
    rw [(h.st hz hy).mpr ⟨k, hk, rfl, by rw [ep]⟩]
    show (!z_kp z (ad k) && !t.1 (ad k)) = true
    rw [(h.blk hz hy hk).2.2.2, ← hrs k hk, e1, e2]
    rfl
theorem mlp_le {rs : Nat → Bool} {i n : Nat} {f : Nat → Nat} (h : mlist (mlp y rs) i n f) : n ≤ m_many y := h.le (fun x _ q => by obtain ⟨k, hk, e, -, -⟩ := q; exact ⟨k, hk, e⟩)
theorem rl.note (h : rl ad z y) (hz : zOK z) (hy : mOK y) {t : T3} {rs : Nat → Bool} (hrs : ∀ k : Nat, k < m_many y → rs k = t.1 (ad k)) : ∀ c : Nat, c ≤ 512 → mlist (mlp y rs) c (zq_nl (z3 z t) c).1 (zq_nl (z3 z t) c).2
  | 0, _ => mlist0
  | c + 1, hc => by
    have ih := rl.note h hz hy hrs c (by omega)
    have hp := h.lostP hz hy hrs (c := c) (by omega)
    have hm := hy.many
    show mlist (mlp y rs) (c + 1) (if zq_lostP (z3 z t) c = true ∧ (zq_nl (z3 z t) c).1 < 255 then ((zq_nl (z3 z t) c).1 + 1, va_up (zq_nl (z3 z t) c).2 (zq_nl (z3 z t) c).1 (16 * c)) else zq_nl (z3 z t) c).1 (if zq_lostP (z3 z t) c = true ∧ (zq_nl (z3 z t) c).1 < 255 then ((zq_nl (z3 z t) c).1 + 1, va_up (zq_nl (z3 z t) c).2 (zq_nl (z3 z t) c).1 (16 * c)) else zq_nl (z3 z t) c).2
    by_cases e : mlp y rs c
    · have h1 := ih.yes e
      have h2 := mlp_le h1
      rw [if_pos ⟨hp.mpr e, by omega⟩]
      exact h1
    · rw [if_neg (fun q => e (hp.mp q.1))]
      exact ih.no e
theorem zRel.lost (h : zRel z y) {v1 v2 : Int32} {rs : Nat → Bool} {n : Nat} {f : Nat → Nat} (h1 : mreach y v1 v2 rs) (h2 : mlist (mlp y rs) 512 n f) : zRel (zq_lost z v1 v2) (mfin y rs n f) ∧ z_ln (zq_lost z v1 v2) = n := by
  obtain ⟨hz, hy, ⟨ad, hr⟩, ho, hb, hl, hR, hK⟩ := h
  obtain ⟨t1, t2⟩ := hr.t3 (v1 := v1) (v2 := v2) hR hz hy ho
  have hrs : ∀ k : Nat, k < m_many y → rs k = (zq_t3 z v1 v2).1 (ad k) := fun k hk => by
    have a := h1 k hk
    have b := t2 k hk
    cases e1 : rs k <;> cases e2 : (zq_t3 z v1 v2).1 (ad k) <;> simp_all
  obtain ⟨u1, u2⟩ := (hr.note hz hy hrs 512 (Nat.le_refl _)).uniq h2
  have hm := hy.many
  have h3 : z3ok z (zq_t3 z v1 v2) := ⟨by have := t1.rn; omega, fun j hj => by obtain ⟨k, hk, e, -⟩ := t1.1 j hj; exact ⟨_, e, (hr.blk hz hy hk).1⟩⟩
  obtain ⟨y1, y2, y3, y4, y5⟩ := hy
  refine ⟨⟨(hz.t3 h3).note 512, ⟨y1, y2, y3, ?_, y5⟩, ⟨ad, hr⟩, ho, hb, ⟨u1, fun k hk => u2 k hk⟩, t1.2.1, hK⟩, u1⟩
  show n ≤ 255
  have := mlp_le h2
  omega
end
