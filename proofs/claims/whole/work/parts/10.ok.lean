-- what holds of the class's state at every call
def zOK (z : ZT) : Prop :=
  (∀ c a : Nat, c < 512 → z_tk z c = some a → a ∈ z_LB z) ∧
  (∀ a ∈ z_LB z, z_bz z a ≤ 2048 ∧ ∃ c : Nat, z_bs z a = 16 * c ∧ 1 ≤ c ∧ c + zc (z_bz z a) + 1 ≤ 512) ∧
  (∀ x : Nat, z_oct z x < 256) ∧
  z_rn z ≤ 255 ∧ (∀ j : Nat, j < z_rn z → ∃ a, z_rb z j = some a ∧ a ∈ z_LB z) ∧ z_ln z ≤ 255 ∧
  (∀ a ∈ z_kl z, a ∈ z_LB z) ∧ (z_kl z).length ≤ z_cap z ∧ (z_cap z = 0 ∨ 2 ≤ z_cap z) ∧ z_cap z < 1000 ∧ (z_kl z).length ≤ 255
theorem zOK.blk {z : ZT} (h : zOK z) {a : Nat} (ha : a ∈ z_LB z) : z_bs z a + z_bz z a ≤ 8192 ∧ z_bs z a < 8192 ∧ z_bz z a ≤ 2048 ∧ 16 ≤ z_bs z a := by
  obtain ⟨h1, c, h2, h3, h4⟩ := h.2.1 a ha
  have := zc_ge (z_bz z a)
  have := zc_pos (z_bz z a)
  omega
theorem zi_lt0 {v : Int32} (h : v < 0) : v.toInt < 0 := by
  have := Int32.lt_iff_toInt_lt.mp h
  simpa using this
theorem zq_at_neg {v : Int32} (h : v < 0) : zq_at v = none := zq_at_none (by have := zi_lt0 h; omega)
theorem zq_at_big {x : Nat} (hx : x < 2 ^ 31) (h : 8192 ≤ x) : zq_at (nI x) = none := zq_at_none (by rw [nI_toInt hx]; omega)
theorem zq_at_of {v : Int32} {x : Nat} (h : zq_at v = some x) : x < 8192 ∧ v = nI x := by
  unfold zq_at at h
  split at h
  · rename_i q
    cases h
    refine ⟨by omega, Int32.toInt_inj.mp ?_⟩
    rw [nI_toInt (by omega)]
    omega
  · cases h
theorem zh_dec (p : Prop) [Decidable p] : zb (decide p) = if p then 1 else 0 := by
  by_cases h : p <;> simp [h, zb]
theorem zopt (o : Option Nat) : o = none ∨ ∃ a, o = some a := by
  cases o with
  | none => exact Or.inl rfl
  | some a => exact Or.inr ⟨a, rfl⟩
theorem nx_or (a b : Nat) : nI a ||| nI b = nI (a ||| b) := by
  apply Int32.toBitVec_inj.1
  show BitVec.ofNat 32 a ||| BitVec.ofNat 32 b = BitVec.ofNat 32 (a ||| b)
  apply BitVec.eq_of_getLsbD_eq
  intro i hi
  simp [hi]
theorem zh_or {p q k : Nat} (hp : p < 2 ^ k) : nI p ||| nI (q * 2 ^ k) = nI (p + q * 2 ^ k) := by
  rw [nx_or, Nat.or_comm, Nat.mul_comm q, ← Nat.two_pow_add_eq_or_of_lt hp, Nat.add_comm]
theorem zh_word {a b c d : Nat} (ha : a < 256) (hb : b < 256) (hc : c < 256) (hd : d < 256) :
    (((nI 0 ||| ((sb_b a &&& nI 255) <<< (nI (8 * 0) &&& 31))) ||| ((sb_b b &&& nI 255) <<< (nI (8 * 1) &&& 31))) ||| ((sb_b c &&& nI 255) <<< (nI (8 * 2) &&& 31))) ||| ((sb_b d &&& nI 255) <<< (nI (8 * 3) &&& 31)) = nI (a + 256 * b + 65536 * c + 16777216 * d) := by
  have e1 : ∀ x, x < 256 → sb_b x &&& nI 255 = nI x := fun x h => (sb_byte x h).1
  rw [e1 a ha, e1 b hb, e1 c hc, e1 d hd]
  have s0 : nI a <<< (nI (8 * 0) &&& 31) = nI (a * 2 ^ 0) := pk_shlN _ 0 (by decide) (by omega)
  have s1 : nI b <<< (nI (8 * 1) &&& 31) = nI (b * 2 ^ 8) := pk_shlN _ 8 (by decide) (by omega)
  have s2 : nI c <<< (nI (8 * 2) &&& 31) = nI (c * 2 ^ 16) := pk_shlN _ 16 (by decide) (by omega)
  have s3 : nI d <<< (nI (8 * 3) &&& 31) = nI (d * 2 ^ 24) := pk_shlN _ 24 (by decide) (by omega)
  rw [s0, s1, s2, s3, zh_or (p := 0) (by decide), zh_or (by omega), zh_or (by omega), zh_or (by omega)]
  congr 1
  omega
/-- the class's own search for room -/
def zt_run (tk : Nat → Option Nat) (i u : Nat) : Prop := u ≤ i ∧ (∀ k, i ≤ k + u → k < i → tk k = none) ∧ (u < i → tk (i - u - 1) ≠ none)
theorem zt_run_room {tk : Nat → Option Nat} {d i u : Nat} (h : zt_run tk i u) (hn : ∀ c, 1 ≤ c → c + d < i → ¬ zt_gap tk d c) (hu : u = d + 2) : zt_gap tk d (i - 1 - d) := by
  obtain ⟨h1, h2, h3⟩ := h
  intro k q1 q2
  exact h2 k (by omega) (by omega)
theorem ts_nf {x : Bool} (h : ¬ x = false) : x = true := by cases x <;> simp_all
theorem ts_nt {x : Bool} (h : ¬ x = true) : x = false := by cases x <;> simp_all
theorem zq_st_of {z : ZT} {v : Int32} {a : Nat} (h : zq_st z v = some a) : ∃ x : Nat, x < 8192 ∧ v = nI x ∧ z_tk z (x / 16) = some a ∧ z_bs z a = x := by
  unfold zq_st at h
  cases hq : zq_at v with
  | none => rw [hq] at h; cases h
  | some x =>
    rw [hq] at h
    obtain ⟨h1, h2⟩ := zq_at_of hq
    have h : (z_tk z (x / 16)).bind (fun a => if z_bs z a = x then some a else none) = some a := h
    cases ht : z_tk z (x / 16) with
    | none => rw [ht] at h; cases h
    | some b =>
      rw [ht] at h
      have h : (if z_bs z b = x then some b else none) = some a := h
      split at h
      · cases h
        exact ⟨x, h1, h2, ht, by assumption⟩
      · cases h
theorem zq_st_in {z : ZT} {v : Int32} {a : Nat} (hz : zOK z) (h : zq_st z v = some a) : a ∈ z_LB z := by
  obtain ⟨x, h1, -, h3, -⟩ := zq_st_of h
  exact hz.1 _ a (by omega) h3
theorem zq_hv_of {z : ZT} {v : Int32} {a : Nat} (h : zq_hv z v = some a) : ∃ x : Nat, x < 8192 ∧ v = nI x ∧ z_tk z (x / 16) = some a ∧ z_kp z a = false ∧ z_bs z a ≤ x ∧ x < z_bs z a + z_bz z a := by
  unfold zq_hv at h
  cases hq : zq_at v with
  | none => rw [hq] at h; cases h
  | some x =>
    rw [hq] at h
    obtain ⟨h1, h2⟩ := zq_at_of hq
    have h : (z_tk z (x / 16)).bind (fun a => if z_kp z a = false ∧ z_bs z a ≤ x ∧ x < z_bs z a + z_bz z a then some a else none) = some a := h
    cases ht : z_tk z (x / 16) with
    | none => rw [ht] at h; cases h
    | some b =>
      rw [ht] at h
      have h : (if z_kp z b = false ∧ z_bs z b ≤ x ∧ x < z_bs z b + z_bz z b then some b else none) = some a := h
      split at h
      · cases h
        rename_i q
        exact ⟨x, h1, h2, ht, q⟩
      · cases h
theorem zq_hv_in {z : ZT} {v : Int32} {a : Nat} (hz : zOK z) (h : zq_hv z v = some a) : a ∈ z_LB z := by
  obtain ⟨x, h1, -, h3, -⟩ := zq_hv_of h
  exact hz.1 _ a (by omega) h3
theorem zq_led_in {z : ZT} {v : Int32} {a : Nat} (hz : zOK z) (h : zq_led z v = some a) : a ∈ z_LB z := by
  unfold zq_led at h
  split at h
  · rename_i b hb
    split at h
    · cases h
      exact zq_st_in hz hb
    · exact zq_hv_in hz h
  · exact zq_hv_in hz h
theorem zc_max {n : Nat} (h : n ≤ 2048) : (if nI 1 < nI ((n + 16 - 1) / 16) then nI ((n + 16 - 1) / 16) else nI 1) = nI (zc n) := by
  unfold zc
  by_cases q : 1 < (n + 16 - 1) / 16
  · rw [if_pos ((nI_ltI (by omega) (by omega)).mpr q), if_neg (by omega)]
    exact congrArg nI (by omega)
  · rw [if_neg (fun z => q ((nI_ltI (by omega) (by omega)).mp z))]
    by_cases e : n = 0
    · rw [if_pos e]
    · rw [if_neg e]
      exact congrArg nI (by omega)
theorem zt_run0 {tk : Nat → Option Nat} : zt_run tk 0 0 := ⟨Nat.le_refl _, fun k _ h => by omega, fun h => by omega⟩
theorem zt_run_free {tk : Nat → Option Nat} {i u : Nat} (h : zt_run tk i u) (hi : tk i = none) : zt_run tk (i + 1) (u + 1) := by
  obtain ⟨h1, h2, h3⟩ := h
  refine ⟨by omega, fun k q1 q2 => ?_, fun q => ?_⟩
  · by_cases e : k = i
    · rw [e]; exact hi
    · exact h2 k (by omega) (by omega)
  · rw [show i + 1 - (u + 1) - 1 = i - u - 1 by omega]
    exact h3 (by omega)
theorem zt_run_hit {tk : Nat → Option Nat} {i : Nat} (hi : tk i ≠ none) : zt_run tk (i + 1) 0 := ⟨by omega, fun k q1 q2 => by omega, fun _ => hi⟩
theorem zt_run_no {tk : Nat → Option Nat} {d i u : Nat} (h : zt_run tk (i + 1) u) (hu : u < d + 2) (hn : ∀ c, 1 ≤ c → c + d < i → ¬ zt_gap tk d c) : ∀ c, 1 ≤ c → c + d < i + 1 → ¬ zt_gap tk d c := by
  intro c h1 h2 hg
  by_cases e : c + d < i
  · exact hn c h1 e hg
  · exact h.2.2 (by omega) (hg _ (by omega) (by omega))
theorem zt_run_yes {tk : Nat → Option Nat} {d i : Nat} (h : zt_run tk (i + 1) (d + 2)) (hi : i < 512) (hn : ∀ c, 1 ≤ c → c + d < i → ¬ zt_gap tk d c) : zr_room (zt_gap tk d) d (i - d) := by
  have h1 := h.1
  exact Or.inr ⟨by omega, by omega, fun k q1 q2 => h.2.1 k (by omega) (by omega), fun c q1 q2 => hn c q1 (by omega)⟩
def z3ok (z : ZT) (t : T3) : Prop := t.2.2 ≤ 255 ∧ ∀ j : Nat, j < t.2.2 → ∃ a, t.2.1 j = some a ∧ a ∈ z_LB z
theorem zOK.t3 {z : ZT} {t : T3} (h : zOK z) (ht : z3ok z t) : zOK (z3 z t) := ⟨h.1, h.2.1, h.2.2.1, ht.1, ht.2, h.2.2.2.2.2⟩
theorem z3ok.reach {z : ZT} {t : T3} {v : Int32} (hz : zOK z) (h : z3ok z t) : z3ok z (zr3 z v t) := by
  unfold zr3
  split
  · exact h
  · rename_i a ha
    split
    · exact h
    · rename_i q
      refine ⟨by show t.2.2 + 1 ≤ 255; omega, fun j hj => ?_⟩
      have hj : j < t.2.2 + 1 := hj
      show ∃ b, va_up t.2.1 t.2.2 (some a) j = some b ∧ b ∈ z_LB z
      by_cases e : j = t.2.2
      · subst e
        exact ⟨a, va_up_self _ _ _, zq_led_in hz ha⟩
      · rw [va_up_ne _ _ e]
        exact h.2 j (by omega)
theorem z3ok.words {z : ZT} {t : T3} {a : Nat} (hz : zOK z) (h : z3ok z t) : ∀ n : Nat, z3ok z (zw3 z a t n)
  | 0 => h
  | n + 1 => z3ok.reach hz (z3ok.words hz h n)
theorem zne1 {k : Nat} (hk : k < 2 ^ 31) : nI k ≠ (-1 : Int32) := fun h => by
  have h9 := congrArg Int32.toInt h
  rw [nI_toInt hk, show ((-1 : Int32)).toInt = -1 from by decide] at h9
  omega
theorem zq_nl_le {z : ZT} : ∀ c : Nat, (zq_nl z c).1 ≤ 255
  | 0 => Nat.zero_le _
  | c + 1 => by
    show (if zq_lostP z c = true ∧ (zq_nl z c).1 < 255 then ((zq_nl z c).1 + 1, va_up (zq_nl z c).2 (zq_nl z c).1 (16 * c)) else zq_nl z c).1 ≤ 255
    split
    · show (zq_nl z c).1 + 1 ≤ 255
      omega
    · exact zq_nl_le c
theorem zq_frc_s {z : ZT} {n a : Nat} (h : z_rb z n = some a) : zq_frc z (n + 1) = va_up (zq_frc z n) a false := by
  simp only [zq_frc, h]
