-- sums over a table, cells of a block, first places
def zc (n : Nat) : Nat := if n = 0 then 1 else (n + 15) / 16
theorem zc_pos (n : Nat) : 1 ≤ zc n := by
  unfold zc
  split <;> omega
theorem zc_le {n : Nat} (h : n ≤ 2048) : zc n ≤ 128 := by
  unfold zc
  split <;> omega
theorem zc_ge (n : Nat) : n ≤ 16 * zc n := by
  unfold zc
  split <;> omega
def zsum (f : Nat → Nat) : Nat → Nat
  | 0 => 0
  | n + 1 => zsum f n + f n
theorem zsum_congr {f g : Nat → Nat} : ∀ {n : Nat}, (∀ k, k < n → f k = g k) → zsum f n = zsum g n
  | 0, _ => rfl
  | n + 1, h => by
    show zsum f n + f n = zsum g n + g n
    rw [zsum_congr (n := n) (fun k hk => h k (by omega)), h n (by omega)]
theorem zsum_up {f : Nat → Nat} {k v : Nat} : ∀ {n : Nat}, k < n → zsum (va_up f k v) n + f k = zsum f n + v
  | 0, h => by omega
  | n + 1, h => by
    show zsum (va_up f k v) n + va_up f k v n + f k = zsum f n + f n + v
    by_cases e : n = k
    · subst e
      rw [va_up_self, zsum_congr (f := va_up f n v) (g := f) (n := n) (fun j hj => va_up_ne f v (by omega))]
      omega
    · have := zsum_up (f := f) (k := k) (v := v) (n := n) (by omega)
      rw [va_up_ne f v e]
      omega
theorem zsum_at {f : Nat → Nat} {k : Nat} : ∀ {n : Nat}, k < n → f k ≤ zsum f n
  | 0, h => by omega
  | n + 1, h => by
    show f k ≤ zsum f n + f n
    by_cases e : k = n
    · subst e
      omega
    · have := zsum_at (f := f) (k := k) (n := n) (by omega)
      omega
theorem zsum_mono {f g : Nat → Nat} : ∀ {n : Nat}, (∀ k, k < n → f k ≤ g k) → zsum f n ≤ zsum g n
  | 0, _ => Nat.le_refl _
  | n + 1, h => by
    show zsum f n + f n ≤ zsum g n + g n
    have h1 := zsum_mono (f := f) (g := g) (n := n) (fun k hk => h k (by omega))
    have h2 := h n (by omega)
    omega
theorem zsum_const {c : Nat} : ∀ {n : Nat}, zsum (fun _ => c) n = n * c
  | 0 => by simp [zsum]
  | n + 1 => by
    show zsum (fun _ => c) n + c = (n + 1) * c
    rw [zsum_const (n := n), Nat.succ_mul]
/-- no more than n different numbers lie below n -/
theorem zpig : ∀ {n m : Nat} {f : Nat → Nat}, (∀ i, i < m → f i < n) → (∀ i j, i < m → j < m → f i = f j → i = j) → m ≤ n
  | 0, m, f, h, _ => by
    cases m with
    | zero => exact Nat.le_refl _
    | succ m => exact absurd (h 0 (by omega)) (by omega)
  | n + 1, 0, f, _, _ => by omega
  | n + 1, m + 1, f, h, hi => by
    have key : m ≤ n := by
      refine zpig (n := n) (m := m) (f := fun i => if f i = n then f m else f i) (fun i hi' => ?_) (fun i j h1 h2 he => ?_)
      · show (if f i = n then f m else f i) < n
        split
        · rename_i e
          have h3 := h m (by omega)
          have h4 : f m ≠ n := fun q => absurd (hi i m (by omega) (by omega) (by omega)) (by omega)
          omega
        · rename_i e
          have h3 := h i (by omega)
          omega
      · have he : (if f i = n then f m else f i) = (if f j = n then f m else f j) := he
        by_cases e1 : f i = n
        · by_cases e2 : f j = n
          · exact hi i j (by omega) (by omega) (by omega)
          · rw [if_pos e1, if_neg e2] at he
            exact absurd (hi m j (by omega) (by omega) he) (by omega)
        · by_cases e2 : f j = n
          · rw [if_neg e1, if_pos e2] at he
            exact absurd (hi i m (by omega) (by omega) he) (by omega)
          · rw [if_neg e1, if_neg e2] at he
            exact hi i j (by omega) (by omega) he
    omega
/-- the first place below n with P, or -1 -/
def zfst (P : Nat → Prop) (n : Nat) (r : Int32) : Prop := (r = -1 ∧ ∀ k, k < n → ¬ P k) ∨ ∃ k, k < n ∧ r = nI k ∧ P k ∧ ∀ j, j < k → ¬ P j
-- the table of blocks (the reference's), the first room in it
def zr_ok (many : Nat) (pc sz sta : Nat → Nat) : Prop :=
  (∀ k, k < many → 1 ≤ pc k ∧ pc k + zc (sz k) + 1 ≤ 512 ∧ sz k ≤ 2048 ∧ (sta k = 1 ∨ sta k = 2)) ∧
  ∀ j k, j < many → k < many → j ≠ k → pc j + zc (sz j) + 1 ≤ pc k ∨ pc k + zc (sz k) + 1 ≤ pc j
theorem zr_ok.many {many : Nat} {pc sz sta : Nat → Nat} (h : zr_ok many pc sz sta) : many ≤ 255 := by
  refine zpig (f := fun k => (pc k - 1) / 2) (fun i hi => ?_) (fun i j h1 h2 he => ?_)
  · have a := h.1 i hi
    have b := zc_pos (sz i)
    show (pc i - 1) / 2 < 255
    omega
  · by_cases e : i = j
    · exact e
    · have a := h.2 i j h1 h2 e
      have b := zc_pos (sz i)
      have d := zc_pos (sz j)
      have f := (h.1 i h1).1
      have g := (h.1 j h2).1
      have he : (pc i - 1) / 2 = (pc j - 1) / 2 := he
      omega
def zr_fit (many : Nat) (pc sz : Nat → Nat) (c d : Nat) : Prop := ∀ k, k < many → ¬ (c < pc k + zc (sz k) + 1 ∧ pc k < c + d + 1)
/-- r is the first cell with room for d cells and a zone on either side, or 0 -/
def zr_room (P : Nat → Prop) (d r : Nat) : Prop :=
  (r = 0 ∧ ∀ c, 1 ≤ c → c + d + 1 ≤ 512 → ¬ P c) ∨ (1 ≤ r ∧ r + d + 1 ≤ 512 ∧ P r ∧ ∀ c, 1 ≤ c → c < r → ¬ P c)
theorem zr_room.uniq {P P' : Nat → Prop} {d r r' : Nat} (hp : ∀ c, 1 ≤ c → c + d + 1 ≤ 512 → (P c ↔ P' c)) (h : zr_room P d r) (h' : zr_room P' d r') : r = r' := by
  rcases h with ⟨e, a⟩ | ⟨a1, a2, a3, a4⟩
  · rcases h' with ⟨e', b⟩ | ⟨b1, b2, b3, b4⟩
    · omega
    · exact absurd ((hp r' b1 b2).mpr b3) (a r' b1 b2)
  · rcases h' with ⟨e', b⟩ | ⟨b1, b2, b3, b4⟩
    · exact absurd ((hp r a1 a2).mp a3) (b r a1 a2)
    · by_cases q : r < r'
      · exact absurd ((hp r a1 a2).mp a3) (b4 r a1 q)
      · by_cases q2 : r' < r
        · exact absurd ((hp r' b1 b2).mpr b3) (a4 r' b1 q2)
        · omega
-- the class's cells
def zt_gap (tk : Nat → Option Nat) (d c : Nat) : Prop := ∀ k, c ≤ k + 1 → k ≤ c + d → tk k = none
def zt_set (tk : Nat → Option Nat) (c d : Nat) (v : Option Nat) : Nat → Option Nat := fun k => if c ≤ k ∧ k < c + d then v else tk k
def zt_tk (ad : Nat → Nat) (many : Nat) (pc sz : Nat → Nat) (tk : Nat → Option Nat) : Prop := ∀ c, c < 512 → ∀ a, tk c = some a ↔ ∃ k, k < many ∧ a = ad k ∧ pc k ≤ c ∧ c < pc k + zc (sz k)
theorem zt_gap_iff {ad : Nat → Nat} {many : Nat} {pc sz : Nat → Nat} {tk : Nat → Option Nat} {d : Nat} (h : zt_tk ad many pc sz tk) (c : Nat) (h1 : 1 ≤ c) (h2 : c + d + 1 ≤ 512) : zt_gap tk d c ↔ zr_fit many pc sz c d := by
  constructor
  · intro g k hk ⟨q1, q2⟩
    have hz := zc_pos (sz k)
    by_cases e : c ≤ pc k + 1
    · have a := (h (pc k) (by omega) (ad k)).mpr ⟨k, hk, rfl, by omega, by omega⟩
      rw [g (pc k) (by omega) (by omega)] at a
      cases a
    · have a := (h (c - 1) (by omega) (ad k)).mpr ⟨k, hk, rfl, by omega, by omega⟩
      rw [g (c - 1) (by omega) (by omega)] at a
      cases a
  · intro f k h3 h4
    cases e : tk k with
    | none => rfl
    | some a =>
      obtain ⟨j, hj, -, q1, q2⟩ := (h k (by omega) a).mp e
      exact absurd ⟨by omega, by omega⟩ (f j hj)
-- the relation of the class's blocks to the reference's table
def zt_kl (ad : Nat → Nat) (many backs : Nat) (sta sin : Nat → Nat) (kl : List Nat) : Prop :=
  (∀ (i a : Nat), kl[i]? = some a → ∃ k, k < many ∧ sta k = 2 ∧ a = ad k) ∧
  (∀ k, k < many → sta k = 2 → ∃ i : Nat, kl[i]? = some (ad k)) ∧
  (∀ i j k k' : Nat, i < j → k < many → k' < many → kl[i]? = some (ad k) → kl[j]? = some (ad k') → sin k < sin k') ∧
  (∀ k, k < many → sta k = 2 → sin k ≤ backs)
def zt_R (ad : Nat → Nat) (tk : Nat → Option Nat) (ko lb lo : Nat) (kl LB : List Nat) (bc bz : Nat → Nat) (kp : Nat → Bool) (many backs : Nat) (pc sz sta sin : Nat → Nat) : Prop :=
  zr_ok many pc sz sta ∧ (∀ j k, j < many → k < many → ad j = ad k → j = k) ∧
  (∀ k, k < many → ad k ∈ LB ∧ bc (ad k) = pc k ∧ bz (ad k) = sz k ∧ kp (ad k) = decide (sta k = 2)) ∧
  zt_tk ad many pc sz tk ∧ zt_kl ad many backs sta sin kl ∧
  lb = zsum (fun k => if sta k = 1 then 1 else 0) many ∧ lo = zsum (fun k => if sta k = 1 then sz k else 0) many ∧
  ko = zsum (fun k => if sta k = 2 then sz k else 0) many ∧ kl.length = zsum (fun k => if sta k = 2 then 1 else 0) many
/-- a block is made -/
theorem zt_R.make {ad : Nat → Nat} {tk : Nat → Option Nat} {ko lb lo : Nat} {kl LB : List Nat} {bc bz : Nat → Nat} {kp : Nat → Bool} {many backs : Nat} {pc sz sta sin : Nat → Nat} {n r q : Nat}
    (h : zt_R ad tk ko lb lo kl LB bc bz kp many backs pc sz sta sin) (hn : n ≤ 2048) (h1 : 1 ≤ r) (h2 : r + zc n + 1 ≤ 512) (hf : zr_fit many pc sz r (zc n)) (hq : q ∉ LB) :
    zt_R (va_up ad many q) (zt_set tk r (zc n) (some q)) ko (lb + 1) (lo + n) kl (LB ++ [q]) (va_up bc q r) (va_up bz q n) (va_up kp q false) (many + 1) backs (va_up pc many r) (va_up sz many n) (va_up sta many 1) sin := by
  obtain ⟨⟨o1, o2⟩, hi, hb, ht, ⟨k1, k2, k3, k4⟩, e1, e2, e3, e4⟩ := h
  have up : ∀ {α : Type} (f : Nat → α) (v : α) {k : Nat}, k < many → va_up f many v k = f k := by
    intro α f v k hk
    exact va_up_ne f v (by omega)
  have hqa : ∀ k, k < many → ad k ≠ q := fun k hk e => hq (e ▸ (hb k hk).1)
  refine ⟨⟨fun k hk => ?_, fun j k hj hk hjk => ?_⟩, fun j k hj hk e => ?_, fun k hk => ?_, fun c hc a => ?_, ⟨fun i a e => ?_, fun k hk e => ?_, fun i j k k' hij hk hk' ei ej => ?_, fun k hk e => ?_⟩, ?_, ?_, ?_, ?_⟩
  · by_cases e : k = many
    · subst e
      rw [va_up_self, va_up_self, va_up_self]
      exact ⟨h1, h2, hn, Or.inl rfl⟩
    · rw [up pc r (by omega), up sz n (by omega), up sta 1 (by omega)]
      exact o1 k (by omega)
  · by_cases e : j = many
    · subst e
      rw [va_up_self, va_up_self, up pc r (by omega), up sz n (by omega)]
      have := hf k (by omega)
      omega
    · by_cases e' : k = many
      · subst e'
        rw [va_up_self, va_up_self, up pc r (by omega), up sz n (by omega)]
        have := hf j (by omega)
        omega
      · rw [up pc r (by omega), up sz n (by omega), up pc r (by omega), up sz n (by omega)]
        exact o2 j k (by omega) (by omega) hjk
  · by_cases e1 : j = many
    · by_cases e2 : k = many
      · omega
      · subst e1
        rw [va_up_self, up ad q (by omega)] at e
        exact absurd e.symm (hqa k (by omega))
    · by_cases e2 : k = many
      · subst e2
        rw [va_up_self, up ad q (by omega)] at e
        exact absurd e (hqa j (by omega))
      · rw [up ad q (by omega), up ad q (by omega)] at e
        exact hi j k (by omega) (by omega) e
  · by_cases e : k = many
    · subst e
      simp only [va_up_self]
      exact ⟨by simp, trivial, trivial, by decide⟩
    · have hk' : k < many := by omega
      obtain ⟨a1, a2, a3, a4⟩ := hb k hk'
      rw [up ad q hk', up pc r hk', up sz n hk', up sta 1 hk', va_up_ne bc r (hqa k hk'), va_up_ne bz n (hqa k hk'), va_up_ne kp false (hqa k hk')]
      exact ⟨List.mem_append_left _ a1, a2, a3, a4⟩
  · unfold zt_set
    constructor
    · intro e
      split at e
      · rename_i hc2
        cases e
        exact ⟨many, by omega, by rw [va_up_self], by rw [va_up_self]; exact hc2.1, by rw [va_up_self, va_up_self]; exact hc2.2⟩
      · obtain ⟨k, hk, ea, q1, q2⟩ := (ht c hc a).mp e
        exact ⟨k, by omega, by rw [up ad q hk]; exact ea, by rw [up pc r hk]; exact q1, by rw [up pc r hk, up sz n hk]; exact q2⟩
    · rintro ⟨k, hk, ea, q1, q2⟩
      by_cases e : k = many
      · subst e
        rw [va_up_self] at ea q1 q2
        rw [va_up_self] at q2
        rw [if_pos ⟨q1, q2⟩, ea]
      · have hk' : k < many := by omega
        rw [up ad q hk'] at ea
        rw [up pc r hk'] at q1 q2
        rw [up sz n hk'] at q2
        have := hf k hk'
        rw [if_neg (by omega)]
        exact (ht c hc a).mpr ⟨k, hk', ea, q1, q2⟩
  · obtain ⟨k, hk, ek, ea⟩ := k1 i a e
    exact ⟨k, by omega, by rw [up sta 1 hk]; exact ek, by rw [up ad q hk]; exact ea⟩
  · by_cases e' : k = many
    · subst e'
      rw [va_up_self] at e
      omega
    · have hk' : k < many := by omega
      rw [up sta 1 hk'] at e
      rw [up ad q hk']
      exact k2 k hk' e
  · obtain ⟨x, hx, ex, eax⟩ := k1 i _ ei
    obtain ⟨y, hy, ey, eay⟩ := k1 j _ ej
    have h5 : k ≠ many := fun z => by
      subst z
      rw [va_up_self] at eax
      exact hqa x hx eax.symm
    have h6 : k' ≠ many := fun z => by
      subst z
      rw [va_up_self] at eay
      exact hqa y hy eay.symm
    rw [up ad q (by omega)] at ei
    rw [up ad q (by omega)] at ej
    exact k3 i j k k' hij (by omega) (by omega) ei ej
  · by_cases e' : k = many
    · subst e'
      rw [va_up_self] at e
      omega
    · have hk' : k < many := by omega
      rw [up sta 1 hk'] at e
      exact k4 k hk' e
  · show lb + 1 = zsum _ many + (if va_up sta many 1 many = 1 then 1 else 0)
    rw [va_up_self, if_pos rfl, e1]
    exact congrArg (· + 1) (zsum_congr fun k hk => by rw [up sta 1 hk])
  · show lo + n = zsum _ many + (if va_up sta many 1 many = 1 then va_up sz many n many else 0)
    rw [va_up_self, va_up_self, if_pos rfl, e2]
    exact congrArg (· + n) (zsum_congr fun k hk => by rw [up sta 1 hk, up sz n hk])
  · show ko = zsum _ many + (if va_up sta many 1 many = 2 then va_up sz many n many else 0)
    rw [va_up_self, if_neg (by decide), e3]
    exact (zsum_congr fun k hk => by rw [up sta 1 hk, up sz n hk])
  · show kl.length = zsum _ many + (if va_up sta many 1 many = 2 then 1 else 0)
    rw [va_up_self, if_neg (by decide), e4]
    exact (zsum_congr fun k hk => by rw [up sta 1 hk])
/-- a live block is given back -/
theorem zt_R.give {ad : Nat → Nat} {tk : Nat → Option Nat} {ko lb lo : Nat} {kl LB : List Nat} {bc bz : Nat → Nat} {kp : Nat → Bool} {many backs : Nat} {pc sz sta sin : Nat → Nat} {b : Nat}
    (h : zt_R ad tk ko lb lo kl LB bc bz kp many backs pc sz sta sin) (hb0 : b < many) (hs : sta b = 1) :
    zt_R ad tk (ko + sz b) (lb - 1) (lo - sz b) (kl ++ [ad b]) LB bc bz (va_up kp (ad b) true) many (backs + 1) pc sz (va_up sta b 2) (va_up sin b (backs + 1)) ∧ 1 ≤ lb ∧ sz b ≤ lo := by
  obtain ⟨⟨o1, o2⟩, hi, hb, ht, ⟨k1, k2, k3, k4⟩, e1, e2, e3, e4⟩ := h
  have f1 := zsum_up (f := fun k => if sta k = 1 then 1 else 0) (k := b) (v := 0) hb0
  have f2 := zsum_up (f := fun k => if sta k = 1 then sz k else 0) (k := b) (v := 0) hb0
  have f3 := zsum_up (f := fun k => if sta k = 2 then sz k else 0) (k := b) (v := sz b) hb0
  have f4 := zsum_up (f := fun k => if sta k = 2 then 1 else 0) (k := b) (v := 1) hb0
  simp only [hs, if_pos, if_neg (show ¬ (1 : Nat) = 2 by decide)] at f1 f2 f3 f4
  have g1 : (fun k => if va_up sta b 2 k = 1 then 1 else 0) = va_up (fun k => if sta k = 1 then 1 else 0) b 0 := by
    funext k
    by_cases e : k = b
    · subst e; simp [va_up_self]
    · rw [va_up_ne _ _ e, va_up_ne _ _ e]
  have g2 : (fun k => if va_up sta b 2 k = 1 then sz k else 0) = va_up (fun k => if sta k = 1 then sz k else 0) b 0 := by
    funext k
    by_cases e : k = b
    · subst e; simp [va_up_self]
    · rw [va_up_ne _ _ e, va_up_ne _ _ e]
  have g3 : (fun k => if va_up sta b 2 k = 2 then sz k else 0) = va_up (fun k => if sta k = 2 then sz k else 0) b (sz b) := by
    funext k
    by_cases e : k = b
    · subst e; simp [va_up_self]
    · rw [va_up_ne _ _ e, va_up_ne _ _ e]
  have g4 : (fun k => if va_up sta b 2 k = 2 then 1 else 0) = va_up (fun k => if sta k = 2 then 1 else 0) b 1 := by
    funext k
    by_cases e : k = b
    · subst e; simp [va_up_self]
    · rw [va_up_ne _ _ e, va_up_ne _ _ e]
  have nk : ∀ k, sta k = 2 → k ≠ b := fun k e z => by subst z; omega
  refine ⟨⟨⟨fun k hk => ?_, o2⟩, hi, fun k hk => ?_, ht, ⟨fun i a e => ?_, fun k hk e => ?_, fun i j k k' hij hk hk' ei ej => ?_, fun k hk e => ?_⟩, ?_, ?_, ?_, ?_⟩, by omega, by omega⟩
  · obtain ⟨a1, a2, a3, a4⟩ := o1 k hk
    refine ⟨a1, a2, a3, ?_⟩
    by_cases e : k = b
    · subst e; rw [va_up_self]; exact Or.inr rfl
    · rw [va_up_ne _ _ e]; exact a4
  · obtain ⟨a1, a2, a3, a4⟩ := hb k hk
    refine ⟨a1, a2, a3, ?_⟩
    by_cases e : k = b
    · subst e; rw [va_up_self, va_up_self]; rfl
    · rw [va_up_ne kp true (fun z => e (hi k b hk hb0 z)), va_up_ne _ _ e]; exact a4
  · by_cases q : i < kl.length
    · rw [List.getElem?_append_left q] at e
      obtain ⟨k, hk, ek, ea⟩ := k1 i a e
      exact ⟨k, hk, by rw [va_up_ne _ _ (nk k ek)]; exact ek, ea⟩
    · rw [List.getElem?_append_right (by omega)] at e
      have h9 : i - kl.length = 0 := by
        cases h8 : i - kl.length with
        | zero => rfl
        | succ z => rw [h8] at e; simp at e
      rw [h9] at e
      cases e
      exact ⟨b, hb0, by rw [va_up_self], rfl⟩
  · by_cases q : k = b
    · subst q
      exact ⟨kl.length, by simp⟩
    · rw [va_up_ne _ _ q] at e
      obtain ⟨i, ei⟩ := k2 k hk e
      have hl : i < kl.length := (List.getElem?_eq_some_iff.mp ei).1
      exact ⟨i, by rw [List.getElem?_append_left hl]; exact ei⟩
  · have hl : ∀ {i x}, (kl ++ [ad b])[i]? = some x → i < kl.length ∨ (i = kl.length ∧ x = ad b) := by
      intro i x e
      by_cases q : i < kl.length
      · exact Or.inl q
      · rw [List.getElem?_append_right (by omega)] at e
        cases h8 : i - kl.length with
        | zero =>
          rw [h8] at e
          cases e
          exact Or.inr ⟨by omega, rfl⟩
        | succ z => rw [h8] at e; simp at e
    have st2 : ∀ i k, i < kl.length → k < many → (kl ++ [ad b])[i]? = some (ad k) → sta k = 2 ∧ kl[i]? = some (ad k) := by
      intro i k hl hk e
      rw [List.getElem?_append_left hl] at e
      obtain ⟨x, hx, ex, ea⟩ := k1 i _ e
      have := hi k x hk hx ea
      subst this
      exact ⟨ex, e⟩
    rcases hl ei with qi | ⟨qi, ai⟩
    · obtain ⟨s1, t1⟩ := st2 i k qi hk ei
      rw [va_up_ne sin _ (nk k s1)]
      rcases hl ej with qj | ⟨qj, aj⟩
      · obtain ⟨s2, t2⟩ := st2 j k' qj hk' ej
        rw [va_up_ne sin _ (nk k' s2)]
        exact k3 i j k k' hij hk hk' t1 t2
      · have := hi k' b hk' hb0 aj
        subst this
        rw [va_up_self]
        have := k4 k hk s1
        omega
    · rcases hl ej with qj | ⟨qj, aj⟩
      · omega
      · omega
  · by_cases q : k = b
    · subst q; rw [va_up_self]; omega
    · rw [va_up_ne _ _ q] at e
      rw [va_up_ne _ _ q]
      have := k4 k hk e
      omega
  · rw [g1]; omega
  · rw [g2]; omega
  · rw [g3]; omega
  · rw [g4, List.length_append, List.length_singleton]; omega
/-- the oldest kept block of the table -/
def zr_old (many : Nat) (sta sin : Nat → Nat) (o : Nat) : Prop := o < many ∧ sta o = 2 ∧ ∀ k, k < many → sta k = 2 → sin o ≤ sin k
theorem zt_mv {α : Type} (f : Nat → α) {o L k : Nat} : va_up f o (f L) k = f (if k = o then L else k) := by
  by_cases e : k = o
  · subst e; rw [va_up_self, if_pos rfl]
  · rw [va_up_ne _ _ e, if_neg e]
theorem zsum_mv {f : Nat → Nat} {o L : Nat} (ho : o ≤ L) : zsum (va_up f o (f L)) L + f o = zsum f (L + 1) := by
  show _ = zsum f L + f L
  by_cases e : o = L
  · subst e
    rw [zsum_congr (f := va_up f o (f o)) (g := f) (fun k hk => va_up_ne _ _ (by omega))]
  · exact zsum_up (by omega)
theorem zt_R.head {ad : Nat → Nat} {tk : Nat → Option Nat} {ko lb lo : Nat} {kl LB : List Nat} {bc bz : Nat → Nat} {kp : Nat → Bool} {many backs : Nat} {pc sz sta sin : Nat → Nat} {o a : Nat} {kr : List Nat}
    (h : zt_R ad tk ko lb lo kl LB bc bz kp many backs pc sz sta sin) (ho : zr_old many sta sin o) (hk : kl = a :: kr) : a = ad o := by
  obtain ⟨-, hi, -, -, ⟨k1, k2, k3, k4⟩, -⟩ := h
  obtain ⟨o1, o2, o3⟩ := ho
  obtain ⟨x, hx, ex, ea⟩ := k1 0 a (by rw [hk]; rfl)
  obtain ⟨i, ei⟩ := k2 o o1 o2
  cases i with
  | zero =>
    rw [hk] at ei
    cases ei
    rfl
  | succ i =>
    have h1 := k3 0 (i + 1) x o (by omega) hx o1 (by rw [hk, ← ea]; rfl) ei
    have h2 := o3 x hx ex
    omega
/-- the oldest kept block goes -/
theorem zt_R.drop {ad : Nat → Nat} {tk : Nat → Option Nat} {ko lb lo : Nat} {kl LB : List Nat} {bc bz : Nat → Nat} {kp : Nat → Bool} {L backs : Nat} {pc sz sta sin : Nat → Nat} {o a : Nat} {kr : List Nat}
    (h : zt_R ad tk ko lb lo kl LB bc bz kp (L + 1) backs pc sz sta sin) (ho : zr_old (L + 1) sta sin o) (hkl : kl = a :: kr) :
    zt_R (va_up ad o (ad L)) (zt_set tk (bc a) (zc (bz a)) none) (ko - bz a) lb lo kr LB bc bz kp L backs (va_up pc o (pc L)) (va_up sz o (sz L)) (va_up sta o (sta L)) (va_up sin o (sin L)) ∧ bz a ≤ ko ∧ bz a = sz o := by
  have ha := h.head ho hkl
  obtain ⟨⟨o1, o2⟩, hi, hb, ht, ⟨k1, k2, k3, k4⟩, e1, e2, e3, e4⟩ := h
  obtain ⟨p1, p2, p3⟩ := ho
  obtain ⟨b1, b2, b3, b4⟩ := hb o p1
  rw [ha, b2, b3]
  have pi : ∀ k, k < L → (if k = o then L else k) < L + 1 ∧ (if k = o then L else k) ≠ o := fun k hk => by
    split <;> omega
  have pj : ∀ j k, j < L → k < L → (if j = o then L else j) = (if k = o then L else k) → j = k := fun j k hj hk e => by
    split at e <;> split at e <;> omega
  have ps : ∀ j, j < L + 1 → j ≠ o → ∃ k, k < L ∧ (if k = o then L else k) = j := fun j hj hne => by
    by_cases q : j = L
    · exact ⟨o, by omega, by rw [if_pos rfl, q]⟩
    · exact ⟨j, by omega, by rw [if_neg hne]⟩
  have f1 := zsum_mv (f := fun k => if sta k = 1 then 1 else 0) (o := o) (L := L) (by omega)
  have f2 := zsum_mv (f := fun k => if sta k = 1 then sz k else 0) (o := o) (L := L) (by omega)
  have f3 := zsum_mv (f := fun k => if sta k = 2 then sz k else 0) (o := o) (L := L) (by omega)
  have f4 := zsum_mv (f := fun k => if sta k = 2 then 1 else 0) (o := o) (L := L) (by omega)
  have g1 : (fun k => if va_up sta o (sta L) k = 1 then 1 else 0) = va_up (fun k => if sta k = 1 then 1 else 0) o (if sta L = 1 then 1 else 0) := by
    funext k
    by_cases e : k = o
    · subst e; rw [va_up_self, va_up_self]
    · rw [va_up_ne _ _ e, va_up_ne _ _ e]
  have g2 : (fun k => if va_up sta o (sta L) k = 1 then va_up sz o (sz L) k else 0) = va_up (fun k => if sta k = 1 then sz k else 0) o (if sta L = 1 then sz L else 0) := by
    funext k
    by_cases e : k = o
    · subst e; rw [va_up_self, va_up_self, va_up_self]
    · rw [va_up_ne _ _ e, va_up_ne _ _ e, va_up_ne _ _ e]
  have g3 : (fun k => if va_up sta o (sta L) k = 2 then va_up sz o (sz L) k else 0) = va_up (fun k => if sta k = 2 then sz k else 0) o (if sta L = 2 then sz L else 0) := by
    funext k
    by_cases e : k = o
    · subst e; rw [va_up_self, va_up_self, va_up_self]
    · rw [va_up_ne _ _ e, va_up_ne _ _ e, va_up_ne _ _ e]
  have g4 : (fun k => if va_up sta o (sta L) k = 2 then 1 else 0) = va_up (fun k => if sta k = 2 then 1 else 0) o (if sta L = 2 then 1 else 0) := by
    funext k
    by_cases e : k = o
    · subst e; rw [va_up_self, va_up_self]
    · rw [va_up_ne _ _ e, va_up_ne _ _ e]
  simp only [p2, if_neg (show ¬ (2 : Nat) = 1 by decide), if_pos] at f1 f2 f3 f4
  have hsub : ∀ (i x : Nat), kr[i]? = some x → kl[i + 1]? = some x := fun i x e => by rw [hkl]; exact e
  have hne : ∀ (i k : Nat), k < L + 1 → kr[i]? = some (ad k) → k ≠ o := fun i k hk e z => by
    subst z
    have := k3 0 (i + 1) k k (by omega) hk hk (by rw [hkl, ha]; rfl) (hsub i _ e)
    omega
  refine ⟨⟨⟨fun k hk => ?_, fun j k hj hk hjk => ?_⟩, fun j k hj hk e => ?_, fun k hk => ?_, fun c hc x => ?_, ⟨fun i x e => ?_, fun k hk e => ?_, fun i j k k' hij hk hk' ei ej => ?_, fun k hk e => ?_⟩, ?_, ?_, ?_, ?_⟩, by omega, rfl⟩
  · rw [zt_mv pc, zt_mv sz, zt_mv sta]
    exact o1 _ (pi k hk).1
  · rw [zt_mv pc, zt_mv sz, zt_mv pc, zt_mv sz]
    exact o2 _ _ (pi j hj).1 (pi k hk).1 (fun z => hjk (pj j k hj hk z))
  · rw [zt_mv ad, zt_mv ad] at e
    exact pj j k hj hk (hi _ _ (pi j hj).1 (pi k hk).1 e)
  · rw [zt_mv ad, zt_mv pc, zt_mv sz, zt_mv sta]
    exact hb _ (pi k hk).1
  · unfold zt_set
    constructor
    · intro e
      split at e
      · cases e
      · rename_i hno
        obtain ⟨j, hj, ea, q1, q2⟩ := (ht c hc x).mp e
        have hjo : j ≠ o := fun z => by
          subst z
          exact hno ⟨q1, q2⟩
        obtain ⟨k, hk, ek⟩ := ps j hj hjo
        exact ⟨k, hk, by rw [zt_mv ad, ek]; exact ea, by rw [zt_mv pc, ek]; exact q1, by rw [zt_mv pc, zt_mv sz, ek]; exact q2⟩
    · rintro ⟨k, hk, ea, q1, q2⟩
      rw [zt_mv ad] at ea
      rw [zt_mv pc] at q1 q2
      rw [zt_mv sz] at q2
      have := o2 _ o (pi k hk).1 p1 (pi k hk).2
      rw [if_neg (by omega)]
      exact (ht c hc x).mpr ⟨_, (pi k hk).1, ea, q1, q2⟩
  · obtain ⟨j, hj, ej, ea⟩ := k1 (i + 1) x (hsub i x e)
    have hjo : j ≠ o := hne i j hj (by rw [← ea]; exact e)
    obtain ⟨k, hk, ek⟩ := ps j hj hjo
    exact ⟨k, hk, by rw [zt_mv sta, ek]; exact ej, by rw [zt_mv ad, ek]; exact ea⟩
  · rw [zt_mv sta] at e
    rw [zt_mv ad]
    obtain ⟨i, ei⟩ := k2 _ (pi k hk).1 e
    cases i with
    | zero =>
      rw [hkl] at ei
      have ei : some a = some (ad (if k = o then L else k)) := ei
      cases ei
      exact absurd (hi _ o (pi k hk).1 p1 (by rw [← ha])) (pi k hk).2
    | succ i =>
      rw [hkl] at ei
      exact ⟨i, ei⟩
  · rw [zt_mv ad] at ei
    rw [zt_mv ad] at ej
    rw [zt_mv sin, zt_mv sin]
    exact k3 (i + 1) (j + 1) _ _ (by omega) (pi k hk).1 (pi k' hk').1 (hsub i _ ei) (hsub j _ ej)
  · rw [zt_mv sta] at e
    rw [zt_mv sin]
    exact k4 _ (pi k hk).1 e
  · rw [g1]; omega
  · rw [g2]; omega
  · rw [g3]; omega
  · rw [g4]
    rw [hkl, List.length_cons] at e4
    omega
