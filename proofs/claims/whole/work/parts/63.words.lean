/-! the text: positions, signs, words (u_tn, g_or, g_shl: out of kit/laws/BITS.to-paste) -/
theorem u_tn {n : Nat} (h : n < 2 ^ 64) : (UInt64.ofNat n).toNat = n := Nat.mod_eq_of_lt h
theorem g_or {k p a b : Nat} (hp : 2 ^ k = p) (ha : a < p) (h : b * p + a < 2 ^ 64) : lN (b * p) ||| lN a = lN (b * p + a) := by
  subst hp
  have h1 : b * 2 ^ k ||| a = b * 2 ^ k + a := by rw [← Nat.shiftLeft_eq, Nat.shiftLeft_add_eq_or_of_lt ha]
  have h3 : UInt64.ofNat (b * 2 ^ k) ||| UInt64.ofNat a = UInt64.ofNat (b * 2 ^ k + a) := UInt64.toNat_inj.mp (by rw [UInt64.toNat_or, u_tn (by omega), u_tn (by omega), u_tn h, h1])
  have h2 := congrArg UInt64.toInt64 h3
  exact h2
theorem g_shl {a k p : Nat} {y : Int64} (hy : y.toBitVec.smod 64 = BitVec.ofNat 64 k) (hk : k < 64) (hp : 2 ^ k = p) (ha : a < 2 ^ 64) : lN a <<< y = lN (a * p) := by
  subst hp
  apply Int64.toBitVec_inj.mp
  rw [Int64.toBitVec_shiftLeft, hy]
  apply BitVec.eq_of_toNat_eq
  have hb : (lN a).toBitVec.toNat = a := Nat.mod_eq_of_lt ha
  have hk' : (BitVec.ofNat 64 k).toNat = k := Nat.mod_eq_of_lt (by omega)
  have h : ((lN a).toBitVec <<< BitVec.ofNat 64 k).toNat = (a * 2 ^ k) % 2 ^ 64 := by simp only [BitVec.shiftLeft_eq', BitVec.toNat_shiftLeft, hb, hk', Nat.shiftLeft_eq]
  exact h
theorem pack8 {p b : Nat} (hp : p < 2 ^ 48) (hb : b < 256) : (lN p <<< ((8 : Int32).toInt64 &&& 63)) ||| (nI b).toInt64 = lN (p * 256 + b) := by
  rw [nI_l (by omega), g_shl (k := 8) (p := 256) (by decide) (by decide) (by decide) (by omega), g_or (k := 8) (by decide) hb (by omega)]
/-- one text, held as chars and as ints -/
def trel (L : Nat) (g : Nat → Nat) (Cf Tx : Nat → Int32) : Prop := L ≤ 80 ∧ (∀ j, j < L → (32 ≤ g j ∧ g j ≤ 126) ∧ Cf j = nI (g j) ∧ Tx j = nI (g j)) ∧ ∀ j, L ≤ j → g j = 0
theorem g_le {L : Nat} {g : Nat → Nat} {Cf Tx : Nat → Int32} (h : trel L g Cf Tx) (j : Nat) : g j ≤ 126 := by
  by_cases c : j < L
  · exact (h.2.1 j c).1.2
  · rw [h.2.2 j (by omega)]; omega
theorem sign_g {L : Nat} {g : Nat → Nat} {Cf Tx : Nat → Int32} (h : trel L g Cf Tx) {j : Nat} (hj : j < 2 ^ 31) : fX4_signAt Cf (nI L) (nI j) = nI (g j) := by
  have hL := h.1
  unfold fX4_signAt
  rw [if_neg (show ¬ nI j < 0 from nI_pos hj)]
  by_cases c : j < L
  · rw [if_neg (show ¬ nI L ≤ nI j from nI_ge c (by omega)), if_neg (show ¬ Int32.ofNat 80 ≤ nI j from nI_ge (b := 80) (by omega) (by decide)), nI_clamp hj]
    exact (h.2.1 j c).2.1
  · rw [if_pos (show nI L ≤ nI j from nI_le (by omega) hj), h.2.2 j (by omega)]
    rfl
theorem here_in {L : Nat} {g : Nat → Nat} {Cf Tx : Nat → Int32} (h : trel L g Cf Tx) {j : Nat} (hj : j < L) : fX9_here Tx (nI L) (nI j) = nI (g j) := by
  have hL := h.1
  unfold fX9_here
  rw [if_neg (show ¬ nI L ≤ nI j from nI_ge hj (by omega)), nI_clamp (by omega)]
  exact (h.2.1 j hj).2.2
theorem here_out {L j : Nat} {Tx : Nat → Int32} (hj : L ≤ j) (hj2 : j < 2 ^ 31) : fX9_here Tx (nI L) (nI j) = -1 := by
  unfold fX9_here
  rw [if_pos (show nI L ≤ nI j from nI_le hj hj2)]
theorem in_nI {v lo hi : Nat} (hv : v < 2 ^ 31) (hl : lo < 2 ^ 31) (hh : hi < 2 ^ 31) : fX9_in (nI v) (nI lo) (nI hi) = true ↔ lo ≤ v ∧ v ≤ hi := by
  constructor
  · intro q
    have := in_rng q
    rw [nI_toInt hv, nI_toInt hl, nI_toInt hh] at this
    omega
  · intro q
    unfold fX9_in
    rw [if_neg (show ¬ nI v < nI lo from nI_nlt q.1 hv), if_neg (show ¬ nI hi < nI v from nI_nlt q.2 (by omega))]
theorem in_m1 {lo hi : Nat} (hl : lo < 2 ^ 31) : ¬ fX9_in (-1) (nI lo) (nI hi) = true := by
  intro q
  have := (in_rng q).1
  rw [nI_toInt hl] at this
  have e : (-1 : Int32).toInt = -1 := by decide
  omega
/-- a sign of a kind, in both -/
theorem kind_g {L : Nat} {g : Nat → Nat} {Cf Tx : Nat → Int32} (h : trel L g Cf Tx) {j lo hi : Nat} (hj : j < 2 ^ 31) (h0 : 0 < lo) (hl : lo < 2 ^ 31) (hh : hi < 2 ^ 31) : fX9_in (fX9_here Tx (nI L) (nI j)) (nI lo) (nI hi) = true ↔ lo ≤ g j ∧ g j ≤ hi := by
  by_cases c : j < L
  · have := g_le h j
    rw [here_in h c, in_nI (by omega) hl hh]
  · rw [here_out (by omega) hj, h.2.2 j (by omega)]
    exact ⟨fun q => absurd q (in_m1 hl), fun q => by omega⟩
theorem must_g {L : Nat} {g : Nat → Nat} {Cf Tx : Nat → Int32} (h : trel L g Cf Tx) {j c : Nat} (hj : j < 2 ^ 31 - 1) (h0 : 0 < c) (hc : c < 2 ^ 31) : fX9_must Tx (nI L) (nI j) true (nI c) = (nI (j + 1), decide (g j = c)) := by
  unfold fX9_must
  simp only [bd_1]
  rw [if_pos trivial, nI_1]
  by_cases q : j < L
  · have := g_le h j
    rw [here_in h q]
    by_cases e : g j = c
    · rw [if_pos (by rw [e]), decide_eq_true e]
    · rw [if_neg (fun z => e ((nI_eq (by omega) hc).mp z)), decide_eq_false e]
  · rw [here_out (by omega) (by omega), h.2.2 j (by omega), if_neg (fun z => by
      have := congrArg Int32.toInt z
      rw [nI_toInt hc] at this
      have e : (-1 : Int32).toInt = -1 := by decide
      omega), decide_eq_false (by omega)]
theorem must_f {L j c : Nat} {Tx : Nat → Int32} : fX9_must Tx (nI L) (nI j) false (nI c) = (nI (j + 1), false) := by
  unfold fX9_must
  rw [if_neg (by decide), nI_1]
theorem sign_c {L : Nat} {g : Nat → Nat} {Cf Tx : Nat → Int32} (h : trel L g Cf Tx) {j c : Nat} (hj : j < 2 ^ 31) (hc : c < 2 ^ 31) : fX4_readSign Cf (nI L) (nI j) (nI c) = if g j = c then (true, nI (j + 1)) else (false, nI j) := by
  have := g_le h j
  unfold fX4_readSign
  simp only [bd_1]
  rw [sign_g h hj, nI_1]
  by_cases e : g j = c
  · rw [if_pos e, if_pos (by rw [e])]
  · rw [if_neg e, if_neg (fun z => e ((nI_eq (by omega) hc).mp z))]
/-! words -/
def byt (k i : Nat) : Nat := (([[97, 100, 100, 114, 101, 115, 115], [113, 117, 111, 116, 97], [110, 111, 110, 101], [114, 101, 102, 117, 115, 101], [116, 97, 107, 101], [108, 97, 116, 101, 114], [100, 97, 121]] : List (List Nat)).getD k []).getD i 0
def wlen (k : Nat) : Nat := vLen.getD k 0
theorem byt_fchr : ∀ k, k < 7 → ∀ i, i < 7 → fchr k (nI i) = nI (byt k i) ∧ byt k i ≤ 122 := by decide +kernel
theorem wlen_7 : ∀ k, k < 7 → 3 ≤ wlen k ∧ wlen k ≤ 7 := by decide +kernel
theorem byt_let : ∀ k, k < 7 → ∀ i, i < wlen k → 97 ≤ byt k i := by decide +kernel
theorem byt_one : ∀ k, k < 7 → ∀ q, q < 7 → byt k 0 = byt q 0 → k = q := by decide +kernel
/-- a word lies at a place -/
def mat (g : Nat → Nat) (k j : Nat) : Prop := ∀ i, i < wlen k → g (j + i) = byt k i
theorem mat_one {g : Nat → Nat} {k q j : Nat} (hk : k < 7) (hq : q < 7) (h1 : mat g k j) (h2 : mat g q j) : k = q :=
  byt_one k hk q hq (by rw [← h1 0 (by have := wlen_7 k hk; omega), ← h2 0 (by have := wlen_7 q hq; omega)])
theorem has_g {L : Nat} {g : Nat → Nat} {Cf Tx : Nat → Int32} (h : trel L g Cf Tx) {j k : Nat} (hk : k < 7) (hj : j < 1000) : fX4_hasWordAt Cf (nI L) (nI j) k = true ↔ mat g k j := by
  have hw := wlen_7 k hk
  have key : ∀ m i : Nat, i + m = wlen k → (fX4_hasWordAt_2 Cf (nI L) (nI j) k (m + 1) (nI i) = true ↔ ∀ q, i ≤ q → q < wlen k → g (j + q) = byt k q) := by
    intro m
    induction m with
    | zero =>
      intro i e
      rw [fX4_hasWordAt_2_s, if_pos (show Int32.ofNat (vLen.getD k 0) ≤ nI i from nI_le (a := wlen k) (by omega) (by omega))]
      exact ⟨fun _ q h1 h2 => by omega, fun _ => rfl⟩
    | succ m ih =>
      intro i e
      have hb := byt_fchr k hk i (by omega)
      have hg := g_le h (j + i)
      rw [fX4_hasWordAt_2_s, if_neg (show ¬ Int32.ofNat (vLen.getD k 0) ≤ nI i from nI_ge (b := wlen k) (by omega) (by omega))]
      simp only [bd_1]
      rw [nI_add, sign_g h (by omega), hb.1, nI_1]
      by_cases c : g (j + i) = byt k i
      · rw [if_pos (by rw [c]), ih (i + 1) (by omega)]
        constructor
        · intro q x h1 h2
          by_cases z : x = i
          · subst z; exact c
          · exact q x (by omega) h2
        · intro q x h1 h2
          exact q x (by omega) h2
      · rw [if_neg (fun z => c ((nI_eq (by omega) (by omega)).mp z))]
        exact ⟨fun q => (by cases q), fun q => absurd (q i (Nat.le_refl _) (by omega)) c⟩
  unfold fX4_hasWordAt
  have e : ((Int32.ofNat (vLen.getD k 0)).toInt - (0 : Int32).toInt).toNat + 1 = wlen k + 1 := fuel_eq (n := wlen k) (by omega)
  rw [e]
  have := key (wlen k) 0 (by omega)
  rw [nI_0] at this
  rw [this]
  exact ⟨fun q i hi => q i (Nat.zero_le _) hi, fun q i _ hi => q i hi⟩
theorem verb_g {L : Nat} {g : Nat → Nat} {Cf Tx : Nat → Int32} (h : trel L g Cf Tx) {j : Nat} (hj : j < 1000) : (∃ k, k < 7 ∧ mat g k j ∧ fX4_verbAt Cf (nI L) (nI j) = some k) ∨ ((∀ k, k < 7 → ¬ mat g k j) ∧ fX4_verbAt Cf (nI L) (nI j) = none) := by
  have key : ∀ m i : Nat, i + m = 7 → (∃ k, k < 7 ∧ mat g k j ∧ fX4_verbAt_2 Cf (nI L) (nI j) (m + 1) (nI i) = some k) ∨ ((∀ k, i ≤ k → k < 7 → ¬ mat g k j) ∧ fX4_verbAt_2 Cf (nI L) (nI j) (m + 1) (nI i) = none) := by
    intro m
    induction m with
    | zero =>
      intro i e
      rw [fX4_verbAt_2_s, if_pos (show Int32.ofNat 7 ≤ nI i from nI_le (a := 7) (by omega) (by omega))]
      exact Or.inr ⟨fun k h1 h2 => by omega, rfl⟩
    | succ m ih =>
      intro i e
      rw [fX4_verbAt_2_s, if_neg (show ¬ Int32.ofNat 7 ≤ nI i from nI_ge (b := 7) (by omega) (by decide))]
      simp only [bd_1]
      rw [nI_clamp (by omega), nI_1]
      by_cases c : mat g i j
      · rw [if_pos ((has_g h (by omega) hj).mpr c)]
        exact Or.inl ⟨i, by omega, c, rfl⟩
      · rw [if_neg (fun q => c ((has_g h (by omega) hj).mp q))]
        rcases ih (i + 1) (by omega) with g1 | ⟨g1, g2⟩
        · exact Or.inl g1
        · refine Or.inr ⟨fun k h1 h2 => ?_, g2⟩
          by_cases z : k = i
          · subst z; exact c
          · exact g1 k (by omega) h2
  have e : ((Int32.ofNat 7).toInt - (0 : Int32).toInt).toNat + 1 = 8 := by decide
  unfold fX4_verbAt
  rw [e]
  have := key 7 0 (by omega)
  rw [nI_0] at this
  rcases this with g1 | ⟨g1, g2⟩
  · exact Or.inl g1
  · exact Or.inr ⟨fun k hk => g1 k (Nat.zero_le _) hk, g2⟩
/-! the reference's packed words -/
def pkq (f : Nat → Nat) : Nat → Nat
  | 0 => 0
  | r + 1 => pkq f r * 256 + f r
theorem pkq_inj : ∀ (r s : Nat) (f h : Nat → Nat), (∀ i, i < r → 0 < f i ∧ f i < 256) → (∀ i, i < s → 0 < h i ∧ h i < 256) → pkq f r = pkq h s → r = s ∧ ∀ i, i < r → f i = h i := by
  intro r
  induction r with
  | zero =>
    intro s f h hf hh e
    cases s with
    | zero => exact ⟨rfl, fun i hi => by omega⟩
    | succ s =>
      have := hh s (by omega)
      have e : 0 = pkq h s * 256 + h s := e
      omega
  | succ r ih =>
    intro s f h hf hh e
    cases s with
    | zero =>
      have := hf r (by omega)
      have e : pkq f r * 256 + f r = 0 := e
      omega
    | succ s =>
      have a := hf r (by omega)
      have b := hh s (by omega)
      have e : pkq f r * 256 + f r = pkq h s * 256 + h s := e
      obtain ⟨e1, e2⟩ := ih s f h (fun i hi => hf i (by omega)) (fun i hi => hh i (by omega)) (by omega)
      subst e1
      refine ⟨rfl, fun i hi => ?_⟩
      by_cases z : i = r
      · subst z; omega
      · exact e2 i (by omega)
theorem pkq_lt {f : Nat → Nat} : ∀ r : Nat, (∀ i, i < r → f i < 256) → pkq f r < 256 ^ r := by
  intro r
  induction r with
  | zero => intro _; show 0 < 1; omega
  | succ r ih =>
    intro h
    have a := ih (fun i hi => h i (by omega))
    have b := h r (by omega)
    show pkq f r * 256 + f r < 256 ^ (r + 1)
    rw [Nat.pow_succ]
    omega
theorem pkq_56 {f : Nat → Nat} {r : Nat} (hr : r ≤ 7) (h : ∀ i, i < r → f i < 256) : pkq f r < 2 ^ 56 := by
  have a := pkq_lt r h
  have b : 256 ^ r ≤ 256 ^ 7 := Nat.pow_le_pow_right (by decide) hr
  have c : (256 : Nat) ^ 7 = 2 ^ 56 := by decide
  omega
theorem pkq_48 {f : Nat → Nat} {r : Nat} (hr : r ≤ 6) (h : ∀ i, i < r → f i < 256) : pkq f r < 2 ^ 48 := by
  have a := pkq_lt r h
  have b : 256 ^ r ≤ 256 ^ 6 := Nat.pow_le_pow_right (by decide) hr
  have c : (256 : Nat) ^ 6 = 2 ^ 48 := by decide
  omega
theorem word_pk : ∀ k, k < 7 → fX9_wordOf (nI k) = lN (pkq (byt k) (wlen k)) := by decide +kernel
theorem lN_inj {a b : Nat} (ha : a < 2 ^ 56) (hb : b < 2 ^ 56) (h : lN a = lN b) : a = b := by
  have := congrArg Int64.toInt h
  rw [pk_lT (by omega), pk_lT (by omega)] at this
  omega
theorem cmp0 {x y : Int64} : lg_cmp x y = 0 ↔ x = y := by
  unfold lg_cmp
  by_cases c : x > y
  · rw [if_pos c]
    refine ⟨fun q => absurd q (by decide), fun q => ?_⟩
    subst q
    exact absurd (Int64.lt_iff_toInt_lt.mp c) (by omega)
  · rw [if_neg c]
    by_cases d : x = y
    · rw [if_pos d]; exact ⟨fun _ => d, fun _ => rfl⟩
    · rw [if_neg d]; exact ⟨fun q => absurd q (by decide), fun q => absurd q d⟩
theorem find_m {Tx : Nat → Int32} {ln ps pp : Int32} {W : Int64} : ∀ m i : Nat, i + m = 7 → (∃ k, i ≤ k ∧ k < 7 ∧ fX9_wordOf (nI k) = W ∧ fX9_readWord_54 Tx ln ps (m + 1) W (nI i) pp = (nI k, pp)) ∨ ((∀ k, i ≤ k → k < 7 → ¬ fX9_wordOf (nI k) = W) ∧ fX9_readWord_54 Tx ln ps (m + 1) W (nI i) pp = (-1, pp)) := by
  intro m
  induction m with
  | zero =>
    intro i e
    rw [fX9_readWord_54_s, if_pos (show (7 : Int32) ≤ nI i from nI_le (a := 7) (by omega) (by omega))]
    exact Or.inr ⟨fun k h1 h2 => by omega, rfl⟩
  | succ m ih =>
    intro i e
    rw [fX9_readWord_54_s, if_neg (show ¬ (7 : Int32) ≤ nI i from nI_ge (b := 7) (by omega) (by decide))]
    simp only [bd_1]
    rw [nI_1]
    by_cases c : fX9_wordOf (nI i) = W
    · rw [if_pos (cmp0.mpr c)]
      exact Or.inl ⟨i, Nat.le_refl _, by omega, c, rfl⟩
    · rw [if_neg (fun q => c (cmp0.mp q))]
      rcases ih (i + 1) (by omega) with ⟨k, h1, h2, h3, h4⟩ | ⟨g1, g2⟩
      · exact Or.inl ⟨k, by omega, h2, h3, h4⟩
      · refine Or.inr ⟨fun k h1 h2 => ?_, g2⟩
        by_cases z : k = i
        · subst z; exact c
        · exact g1 k (by omega) h2
/-- the reference reads a run of letters, seven at most -/
theorem run_m {L : Nat} {g : Nat → Nat} {Cf Tx : Nat → Int32} (h : trel L g Cf Tx) {j : Nat} (hj : j < 1000) : ∃ r, r ≤ 7 ∧ (∀ i, i < r → 97 ≤ g (j + i) ∧ g (j + i) ≤ 122) ∧ (r = 7 ∨ ¬ (97 ≤ g (j + r) ∧ g (j + r) ≤ 122)) ∧ fX9_readWord Tx (nI L) (nI j) = fX9_readWord_54 Tx (nI L) (nI j) 8 (lN (pkq (fun i => g (j + i)) r)) 0 (nI (j + r)) := by
  have e8 : ((7 : Int32).toInt - (0 : Int32).toInt).toNat + 1 = 8 := by decide
  have key : ∀ m i : Nat, i + m = 7 → (∀ q, q < i → 97 ≤ g (j + q) ∧ g (j + q) ≤ 122) → ∃ r, r ≤ 7 ∧ (∀ i, i < r → 97 ≤ g (j + i) ∧ g (j + i) ≤ 122) ∧ (r = 7 ∨ ¬ (97 ≤ g (j + r) ∧ g (j + r) ≤ 122)) ∧ fX9_readWord_4 Tx (nI L) (nI j) (m + 1) (lN (pkq (fun i => g (j + i)) i)) (nI i) (nI (j + i)) = fX9_readWord_54 Tx (nI L) (nI j) 8 (lN (pkq (fun i => g (j + i)) r)) 0 (nI (j + r)) := by
    intro m
    induction m with
    | zero =>
      intro i e hl
      refine ⟨i, by omega, hl, Or.inl (by omega), ?_⟩
      rw [fX9_readWord_4_s, if_pos (show (7 : Int32) ≤ nI i from nI_le (a := 7) (by omega) (by omega)), e8]
    | succ m ih =>
      intro i e hl
      rw [fX9_readWord_4_s, if_neg (show ¬ (7 : Int32) ≤ nI i from nI_ge (b := 7) (by omega) (by decide))]
      simp only [bd_1]
      have hg := kind_g h (j := j + i) (lo := 97) (hi := 122) (by omega) (by decide) (by decide) (by decide)
      by_cases c : 97 ≤ g (j + i) ∧ g (j + i) ≤ 122
      · have hin : j + i < L := Classical.byContradiction fun q => by
          have := h.2.2 (j + i) (by omega)
          omega
        rw [if_pos (show fX9_in (fX9_here Tx (nI L) (nI (j + i))) 97 122 = true from hg.mpr c), here_in h hin, pack8 (pkq_48 (by omega) (fun q hq => by have := g_le h (j + q); omega)) (by omega), nI_1, nI_1]
        exact ih (i + 1) (by omega) (fun q hq => by
          by_cases z : q = i
          · subst z; exact c
          · exact hl q (by omega))
      · rw [if_neg (show ¬ fX9_in (fX9_here Tx (nI L) (nI (j + i))) 97 122 = true from fun q => c (hg.mp q)), e8]
        exact ⟨i, by omega, hl, Or.inr c, rfl⟩
  unfold fX9_readWord
  rw [e8]
  exact key 7 0 (by omega) (fun q hq => by omega)
/-- the word that the reference reads -/
theorem word_m {L : Nat} {g : Nat → Nat} {Cf Tx : Nat → Int32} (h : trel L g Cf Tx) {j : Nat} (hj : j < 1000) : (∃ k, k < 7 ∧ mat g k j ∧ fX9_readWord Tx (nI L) (nI j) = (nI k, nI (j + wlen k))) ∨ (∃ e, e < 2000 ∧ fX9_readWord Tx (nI L) (nI j) = (-1, nI e) ∧ ∀ k, k < 7 → mat g k j → ¬ g (j + wlen k) = 32) := by
  obtain ⟨r, hr, hl, hstop, e⟩ := run_m h hj
  rw [e]
  have hp := pkq_56 (f := fun i => g (j + i)) hr (fun i hi => by show g (j + i) < 256; have := hl i hi; omega)
  have inj : ∀ k, k < 7 → fX9_wordOf (nI k) = lN (pkq (fun i => g (j + i)) r) → r = wlen k ∧ mat g k j := fun k hk q => by
    have hw := wlen_7 k hk
    rw [word_pk k hk] at q
    have hb : ∀ i, i < wlen k → 0 < byt k i ∧ byt k i < 256 := fun i hi => by
      have a := byt_let k hk i hi
      have b := (byt_fchr k hk i (by omega)).2
      omega
    have e1 := lN_inj (pkq_56 hw.2 (fun i hi => (hb i hi).2)) hp q
    obtain ⟨e2, e3⟩ := pkq_inj _ _ _ _ hb (fun i hi => by show 0 < g (j + i) ∧ g (j + i) < 256; have := hl i hi; omega) e1
    exact ⟨e2.symm, fun i hi => (e3 i hi).symm⟩
  rcases find_m (Tx := Tx) (ln := nI L) (ps := nI j) (pp := nI (j + r)) (W := lN (pkq (fun i => g (j + i)) r)) 7 0 (by omega) with ⟨k, h1, h2, h3, h4⟩ | ⟨g1, g2⟩
  · obtain ⟨e1, e2⟩ := inj k h2 h3
    rw [nI_0] at h4
    exact Or.inl ⟨k, h2, e2, by rw [h4, e1]⟩
  · rw [nI_0] at g2
    refine Or.inr ⟨j + r, by omega, g2, fun k hk hm q => ?_⟩
    have hw := wlen_7 k hk
    have lt : ∀ i, i < wlen k → 97 ≤ g (j + i) ∧ g (j + i) ≤ 122 := fun i hi => by
      rw [hm i hi]
      exact ⟨byt_let k hk i hi, (byt_fchr k hk i (by omega)).2⟩
    have er : r = wlen k := by
      rcases Nat.lt_trichotomy r (wlen k) with z | z | z
      · rcases hstop with s | s
        · omega
        · exact absurd (lt r z) s
      · exact z
      · have := hl (wlen k) z
        omega
    subst er
    refine g1 k (Nat.zero_le _) hk ?_
    rw [word_pk k hk]
    have : ∀ s, s ≤ wlen k → pkq (byt k) s = pkq (fun i => g (j + i)) s := by
      intro s
      induction s with
      | zero => intro _; rfl
      | succ s ih =>
        intro hs
        show pkq (byt k) s * 256 + byt k s = pkq (fun i => g (j + i)) s * 256 + g (j + s)
        rw [ih (by omega), hm s (by omega)]
    rw [this _ (Nat.le_refl _)]
