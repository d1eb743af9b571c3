/-! the law's cases: what the class answers and what the reference answers, call by call -/
section CASES
/-- what holds between the two, at the loop's head -/
def lawR (B : Nat) (RA RI RC : Nat → Int32) (na ni dy vl db first size : Int32) (HS : Nat → SV) (Cf : Nat → Int32) (len : Int32) (S Pa Tx : Nat → Int32) (st ln : Int32) : Prop :=
  ∃ f z L g, first = nI f ∧ size = nI z ∧ st = nI z ∧ len = nI L ∧ ln = nI L ∧ hrel B f z HS Pa ∧ relT B RA RI RC na ni dy vl db S ∧ trel L g Cf Tx ∧ ∀ k, narrow .char (.int (Cf k)) = .int (Cf k)
variable {B : Nat} {RA RI RC : Nat → Int32} {na ni dy vl db first size : Int32} {HS : Nat → SV} {Cf : Nat → Int32} {len : Int32} {S Pa Tx : Nat → Int32} {st ln : Int32}
theorem vp_nI {f n : Nat} (h : f < n) (hn : n < 2 ^ 31) : vp_in (nI f) n := by
  have e : (nI f).toInt = (f : Int) := Int32.toInt_ofNat_of_lt (by omega)
  rintro (hc | hc)
  · have h1 := Int32.lt_iff_toInt_lt.mp hc
    have e0 : (0 : Int32).toInt = 0 := by decide
    rw [e, e0] at h1
    omega
  · have h1 : n ≤ (nI f).toInt.toNat := hc
    rw [e] at h1
    omega
theorem lr_first (h : lawR B RA RI RC na ni dy vl db first size HS Cf len S Pa Tx st ln) : vp_in first 5 ∧ vp_in size 5 ∧ vp_in st 5 ∧ vp_in ln 81 := by
  obtain ⟨f, z, L, g, rfl, rfl, rfl, rfl, rfl, hh, -, ht, -⟩ := h
  exact ⟨vp_nI hh.1 (by decide), vp_nI (by have := hh.2.1; omega) (by decide), vp_nI (by have := hh.2.1; omega) (by decide), vp_nI (by have := ht.1; omega) (by decide)⟩
theorem lr_char (h : lawR B RA RI RC na ni dy vl db first size HS Cf len S Pa Tx st ln) : ∀ k, narrow .char (.int (Cf k)) = .int (Cf k) := by
  obtain ⟨f, z, L, g, -, -, -, -, -, -, -, -, hC⟩ := h
  exact hC
theorem lr_rel (h : lawR B RA RI RC na ni dy vl db first size HS Cf len S Pa Tx st ln) : relT B RA RI RC na ni dy vl db S := by
  obtain ⟨f, z, L, g, -, -, -, -, -, -, hr, -, -⟩ := h
  exact hr
theorem lr_le {B' : Nat} (h : lawR B RA RI RC na ni dy vl db first size HS Cf len S Pa Tx st ln) (hB : B ≤ B') : lawR B' RA RI RC na ni dy vl db first size HS Cf len S Pa Tx st ln := by
  obtain ⟨f, z, L, g, h1, h2, h3, h4, h5, hh, hr, ht, hC⟩ := h
  exact ⟨f, z, L, g, h1, h2, h3, h4, h5, hrel_le hh hB, relT_le hr hB, ht, hC⟩
theorem pop9 (S Bg Pa : Nat → Int32) (st area group people : Int32) : fX9_population S Bg Pa st area group people = bd1 (fX9_begins S Bg) (fun (u_3 : Nat → Int32) => bd2 (popM S area group people) (fun (r_5 : Int32) (u_6 : Nat → Int32) => bd3 (fX9_acted u_3 Pa st r_5) (fun (r_8 : Int32) (u_9 : Nat → Int32) (u_10 : Int32) => (r_8, u_6, u_3, u_9, u_10)))) := by
  unfold fX9_population popM
  simp only [bd_1]
  split
  · split
    · rfl
    · rw [bd_2]
  · rw [bd_2]
theorem lc_address (h : lawR B RA RI RC na ni dy vl db first size HS Cf len S Pa Tx st ln) (Bg : Nat → Int32) (x1 : Int32) : (fX8_address first size HS RA RI RC na ni dy vl db x1).1 = (fX9_address S Bg Pa st x1).1 ∧ lawR (B + 2) (fX8_address first size HS RA RI RC na ni dy vl db x1).2.1 RI RC (fX8_address first size HS RA RI RC na ni dy vl db x1).2.2.1 ni dy vl db (fX8_address first size HS RA RI RC na ni dy vl db x1).2.2.2.2.1 (fX8_address first size HS RA RI RC na ni dy vl db x1).2.2.2.2.2 (fX8_address first size HS RA RI RC na ni dy vl db x1).2.2.2.1 Cf len (fX9_address S Bg Pa st x1).2.1 (fX9_address S Bg Pa st x1).2.2.2.1 Tx (fX9_address S Bg Pa st x1).2.2.2.2 ln := by
  obtain ⟨f, z, L, g, rfl, rfl, rfl, rfl, rfl, hh, ⟨n, k, rfl, rfl, hr⟩, ht, hC⟩ := h
  have hs := sim_adds hr x1
  unfold fX8_address fX9_address
  simp only [bd_1]
  generalize fX5_addAddress RA (nI n) x1 = U at hs ⊢
  generalize fX9_adds S x1 = V at hs ⊢
  obtain ⟨r, u0, u1⟩ := U
  obtain ⟨r9, u9⟩ := V
  dsimp only at hs
  obtain ⟨rfl, hs⟩ := hs
  obtain ⟨f', z', Pa', b1, b2, b3⟩ := sim_hist (Bg := Bg) hh ⟨n, k, rfl, rfl, hr⟩ r
  simp only [bd_3p, bd_2p, bd_3p, b1, b2]
  exact ⟨trivial, f', z', L, g, rfl, rfl, rfl, rfl, rfl, hrel_le b3 (by omega), relT_le hs (by omega), ht, hC⟩
theorem lc_interviewer (h : lawR B RA RI RC na ni dy vl db first size HS Cf len S Pa Tx st ln) (Bg : Nat → Int32) (x1 x2 : Int32) : (fX8_interviewer first size HS RA RI RC na ni dy vl db x1 x2).1 = (fX9_interviewer S Bg Pa st x1 x2).1 ∧ lawR (B + 2) RA (fX8_interviewer first size HS RA RI RC na ni dy vl db x1 x2).2.1 RC na (fX8_interviewer first size HS RA RI RC na ni dy vl db x1 x2).2.2.1 dy vl db (fX8_interviewer first size HS RA RI RC na ni dy vl db x1 x2).2.2.2.2.1 (fX8_interviewer first size HS RA RI RC na ni dy vl db x1 x2).2.2.2.2.2 (fX8_interviewer first size HS RA RI RC na ni dy vl db x1 x2).2.2.2.1 Cf len (fX9_interviewer S Bg Pa st x1 x2).2.1 (fX9_interviewer S Bg Pa st x1 x2).2.2.2.1 Tx (fX9_interviewer S Bg Pa st x1 x2).2.2.2.2 ln := by
  obtain ⟨f, z, L, g, rfl, rfl, rfl, rfl, rfl, hh, ⟨n, k, rfl, rfl, hr⟩, ht, hC⟩ := h
  have hs := sim_comes hr x1 x2
  unfold fX8_interviewer fX9_interviewer
  simp only [bd_1]
  generalize fX5_addInterviewer RI (nI k) x1 x2 = U at hs ⊢
  generalize fX9_comes S x1 x2 = V at hs ⊢
  obtain ⟨r, u0, u1⟩ := U
  obtain ⟨r9, u9⟩ := V
  dsimp only at hs
  obtain ⟨rfl, hs⟩ := hs
  obtain ⟨f', z', Pa', b1, b2, b3⟩ := sim_hist (Bg := Bg) hh ⟨n, k, rfl, rfl, hr⟩ r
  simp only [bd_3p, bd_2p, bd_3p, b1, b2]
  exact ⟨trivial, f', z', L, g, rfl, rfl, rfl, rfl, rfl, hrel_le b3 (by omega), relT_le hs (by omega), ht, hC⟩
theorem lc_quota (h : lawR B RA RI RC na ni dy vl db first size HS Cf len S Pa Tx st ln) (Bg : Nat → Int32) (x1 x2 x3 : Int32) : (fX8_quota first size HS RA RI RC na ni dy vl db x1 x2 x3).1 = (fX9_quota S Bg Pa st x1 x2 x3).1 ∧ lawR (B + 2) RA RI (fX8_quota first size HS RA RI RC na ni dy vl db x1 x2 x3).2.1 na ni dy vl db (fX8_quota first size HS RA RI RC na ni dy vl db x1 x2 x3).2.2.2.1 (fX8_quota first size HS RA RI RC na ni dy vl db x1 x2 x3).2.2.2.2 (fX8_quota first size HS RA RI RC na ni dy vl db x1 x2 x3).2.2.1 Cf len (fX9_quota S Bg Pa st x1 x2 x3).2.1 (fX9_quota S Bg Pa st x1 x2 x3).2.2.2.1 Tx (fX9_quota S Bg Pa st x1 x2 x3).2.2.2.2 ln := by
  obtain ⟨f, z, L, g, rfl, rfl, rfl, rfl, rfl, hh, ⟨n, k, rfl, rfl, hr⟩, ht, hC⟩ := h
  have hs := sim_quota hr x1 x2 x3
  unfold fX8_quota fX9_quota
  simp only [bd_1]
  generalize fX5_changeQuota RC x1 x2 x3 = U at hs ⊢
  generalize fX9_limits S x1 x2 x3 = V at hs ⊢
  obtain ⟨r, u0⟩ := U
  obtain ⟨r9, u9⟩ := V
  dsimp only at hs
  obtain ⟨rfl, hs⟩ := hs
  obtain ⟨f', z', Pa', b1, b2, b3⟩ := sim_hist (Bg := Bg) hh ⟨n, k, rfl, rfl, hr⟩ r
  simp only [bd_2p, bd_2p, bd_3p, b1, b2]
  exact ⟨trivial, f', z', L, g, rfl, rfl, rfl, rfl, rfl, hrel_le b3 (by omega), relT_le hs (by omega), ht, hC⟩
theorem lc_population (h : lawR B RA RI RC na ni dy vl db first size HS Cf len S Pa Tx st ln) (Bg : Nat → Int32) (x1 x2 x3 : Int32) : (fX8_population first size HS RA RI RC na ni dy vl db x1 x2 x3).1 = (fX9_population S Bg Pa st x1 x2 x3).1 ∧ lawR (B + 2) RA RI (fX8_population first size HS RA RI RC na ni dy vl db x1 x2 x3).2.1 na ni dy vl db (fX8_population first size HS RA RI RC na ni dy vl db x1 x2 x3).2.2.2.1 (fX8_population first size HS RA RI RC na ni dy vl db x1 x2 x3).2.2.2.2 (fX8_population first size HS RA RI RC na ni dy vl db x1 x2 x3).2.2.1 Cf len (fX9_population S Bg Pa st x1 x2 x3).2.1 (fX9_population S Bg Pa st x1 x2 x3).2.2.2.1 Tx (fX9_population S Bg Pa st x1 x2 x3).2.2.2.2 ln := by
  obtain ⟨f, z, L, g, rfl, rfl, rfl, rfl, rfl, hh, ⟨n, k, rfl, rfl, hr⟩, ht, hC⟩ := h
  have hs := sim_population hr x1 x2 x3
  rw [pop9]
  unfold fX8_population
  simp only [bd_1]
  generalize fX5_changePopulation RC x1 x2 x3 = U at hs ⊢
  generalize popM S x1 x2 x3 = V at hs ⊢
  obtain ⟨r, u0⟩ := U
  obtain ⟨r9, u9⟩ := V
  dsimp only at hs
  obtain ⟨rfl, hs⟩ := hs
  obtain ⟨f', z', Pa', b1, b2, b3⟩ := sim_hist (Bg := Bg) hh ⟨n, k, rfl, rfl, hr⟩ r
  simp only [bd_2p, bd_2p, bd_3p, b1, b2]
  exact ⟨trivial, f', z', L, g, rfl, rfl, rfl, rfl, rfl, hrel_le b3 (by omega), relT_le hs (by omega), ht, hC⟩
theorem lc_call (h : lawR B RA RI RC na ni dy vl db first size HS Cf len S Pa Tx st ln) (hB : B < 2 ^ 31 - 3) (Bg : Nat → Int32) (x1 x2 x3 x4 : Int32) : (fX8_call first size HS RA RI RC na ni dy vl db x1 x2 x3 x4).1 = (fX9_call S Bg Pa st x1 x2 x3 x4).1 ∧ lawR (B + 2) (fX8_call first size HS RA RI RC na ni dy vl db x1 x2 x3 x4).2.1 (fX8_call first size HS RA RI RC na ni dy vl db x1 x2 x3 x4).2.2.1 (fX8_call first size HS RA RI RC na ni dy vl db x1 x2 x3 x4).2.2.2.1 na ni dy vl db (fX8_call first size HS RA RI RC na ni dy vl db x1 x2 x3 x4).2.2.2.2.2.1 (fX8_call first size HS RA RI RC na ni dy vl db x1 x2 x3 x4).2.2.2.2.2.2 (fX8_call first size HS RA RI RC na ni dy vl db x1 x2 x3 x4).2.2.2.2.1 Cf len (fX9_call S Bg Pa st x1 x2 x3 x4).2.1 (fX9_call S Bg Pa st x1 x2 x3 x4).2.2.2.1 Tx (fX9_call S Bg Pa st x1 x2 x3 x4).2.2.2.2 ln := by
  obtain ⟨f, z, L, g, rfl, rfl, rfl, rfl, rfl, hh, ⟨n, k, rfl, rfl, hr⟩, ht, hC⟩ := h
  have hs := sim_call hr (by omega) x1 x2 x3 x4
  unfold fX8_call fX9_call
  simp only [bd_1]
  generalize fX5_makeCall RA RI RC (nI n) (nI k) dy vl db x1 x2 x3 x4 = U at hs ⊢
  generalize fX9_calls S x1 x2 x3 x4 = V at hs ⊢
  obtain ⟨r, u0, u1, u2⟩ := U
  obtain ⟨r9, u9⟩ := V
  dsimp only at hs
  obtain ⟨rfl, hs⟩ := hs
  obtain ⟨f', z', Pa', b1, b2, b3⟩ := sim_hist (Bg := Bg) hh ⟨n, k, rfl, rfl, hr⟩ r
  simp only [bd_4p, bd_2p, bd_3p, b1, b2]
  exact ⟨trivial, f', z', L, g, rfl, rfl, rfl, rfl, rfl, hrel_le b3 (by omega), relT_le hs (by omega), ht, hC⟩
theorem lc_later (h : lawR B RA RI RC na ni dy vl db first size HS Cf len S Pa Tx st ln) (hB : B < 2 ^ 31 - 3) (Bg : Nat → Int32) (x1 x2 x3 x4 x5 : Int32) : (fX8_later first size HS RA RI RC na ni dy vl db x1 x2 x3 x4 x5).1 = (fX9_later S Bg Pa st x1 x2 x3 x4 x5).1 ∧ lawR (B + 2) (fX8_later first size HS RA RI RC na ni dy vl db x1 x2 x3 x4 x5).2.1 (fX8_later first size HS RA RI RC na ni dy vl db x1 x2 x3 x4 x5).2.2.1 RC na ni dy vl db (fX8_later first size HS RA RI RC na ni dy vl db x1 x2 x3 x4 x5).2.2.2.2.1 (fX8_later first size HS RA RI RC na ni dy vl db x1 x2 x3 x4 x5).2.2.2.2.2 (fX8_later first size HS RA RI RC na ni dy vl db x1 x2 x3 x4 x5).2.2.2.1 Cf len (fX9_later S Bg Pa st x1 x2 x3 x4 x5).2.1 (fX9_later S Bg Pa st x1 x2 x3 x4 x5).2.2.2.1 Tx (fX9_later S Bg Pa st x1 x2 x3 x4 x5).2.2.2.2 ln := by
  obtain ⟨f, z, L, g, rfl, rfl, rfl, rfl, rfl, hh, ⟨n, k, rfl, rfl, hr⟩, ht, hC⟩ := h
  have hs := sim_fix hr (by omega) x1 x2 x3 x4 x5
  unfold fX8_later fX9_later
  simp only [bd_1]
  generalize fX5_makeMeeting RA RI (nI n) (nI k) dy db x1 x2 x3 x4 x5 = U at hs ⊢
  generalize fX9_fixes S x1 x2 x3 x4 x5 = V at hs ⊢
  obtain ⟨r, u0, u1⟩ := U
  obtain ⟨r9, u9⟩ := V
  dsimp only at hs
  obtain ⟨rfl, hs⟩ := hs
  obtain ⟨f', z', Pa', b1, b2, b3⟩ := sim_hist (Bg := Bg) hh ⟨n, k, rfl, rfl, hr⟩ r
  simp only [bd_3p, bd_2p, bd_3p, b1, b2]
  exact ⟨trivial, f', z', L, g, rfl, rfl, rfl, rfl, rfl, hrel_le b3 (by omega), relT_le hs (by omega), ht, hC⟩
theorem lc_pass (h : lawR B RA RI RC na ni dy vl db first size HS Cf len S Pa Tx st ln) (Bg : Nat → Int32) (x1 : Int32) : (fX8_pass first size HS RA RI RC na ni dy vl db x1).1 = (fX9_pass S Bg Pa st x1).1 ∧ lawR (B + 2) RA (fX8_pass first size HS RA RI RC na ni dy vl db x1).2.1 RC na ni (fX8_pass first size HS RA RI RC na ni dy vl db x1).2.2.1 vl db (fX8_pass first size HS RA RI RC na ni dy vl db x1).2.2.2.2.1 (fX8_pass first size HS RA RI RC na ni dy vl db x1).2.2.2.2.2 (fX8_pass first size HS RA RI RC na ni dy vl db x1).2.2.2.1 Cf len (fX9_pass S Bg Pa st x1).2.1 (fX9_pass S Bg Pa st x1).2.2.2.1 Tx (fX9_pass S Bg Pa st x1).2.2.2.2 ln := by
  obtain ⟨f, z, L, g, rfl, rfl, rfl, rfl, rfl, hh, ⟨n, k, rfl, rfl, hr⟩, ht, hC⟩ := h
  have hs := sim_pass hr x1
  unfold fX8_pass fX9_pass
  simp only [bd_1]
  generalize fX5_passDays RI (nI k) dy x1 = U at hs ⊢
  generalize fX9_passes S x1 = V at hs ⊢
  obtain ⟨r, u0, u1⟩ := U
  obtain ⟨r9, u9⟩ := V
  dsimp only at hs
  obtain ⟨rfl, hs⟩ := hs
  obtain ⟨f', z', Pa', b1, b2, b3⟩ := sim_hist (Bg := Bg) hh ⟨n, k, rfl, rfl, hr⟩ r
  simp only [bd_3p, bd_2p, bd_3p, b1, b2]
  exact ⟨trivial, f', z', L, g, rfl, rfl, rfl, rfl, rfl, hrel_le b3 (by omega), relT_le hs (by omega), ht, hC⟩
theorem lc_set (h : lawR B RA RI RC na ni dy vl db first size HS Cf len S Pa Tx st ln) (Bg : Nat → Int32) (x1 x2 : Int32) : (fX8_set first size HS RA RI RC na ni dy vl db x1 x2).1 = (fX9_set S Bg Pa st x1 x2).1 ∧ lawR (B + 2) RA RI RC na ni dy (fX8_set first size HS RA RI RC na ni dy vl db x1 x2).2.1 (fX8_set first size HS RA RI RC na ni dy vl db x1 x2).2.2.1 (fX8_set first size HS RA RI RC na ni dy vl db x1 x2).2.2.2.2.1 (fX8_set first size HS RA RI RC na ni dy vl db x1 x2).2.2.2.2.2 (fX8_set first size HS RA RI RC na ni dy vl db x1 x2).2.2.2.1 Cf len (fX9_set S Bg Pa st x1 x2).2.1 (fX9_set S Bg Pa st x1 x2).2.2.2.1 Tx (fX9_set S Bg Pa st x1 x2).2.2.2.2 ln := by
  obtain ⟨f, z, L, g, rfl, rfl, rfl, rfl, rfl, hh, ⟨n, k, rfl, rfl, hr⟩, ht, hC⟩ := h
  have hs := sim_set hr x1 x2
  unfold fX8_set fX9_set
  simp only [bd_1]
  generalize fX5_changeSetting vl db x1 x2 = U at hs ⊢
  generalize fX9_sets S x1 x2 = V at hs ⊢
  obtain ⟨r, u0, u1⟩ := U
  obtain ⟨r9, u9⟩ := V
  dsimp only at hs
  obtain ⟨rfl, hs⟩ := hs
  obtain ⟨f', z', Pa', b1, b2, b3⟩ := sim_hist (Bg := Bg) hh ⟨n, k, rfl, rfl, hr⟩ r
  simp only [bd_3p, bd_2p, bd_3p, b1, b2]
  exact ⟨trivial, f', z', L, g, rfl, rfl, rfl, rfl, rfl, hrel_le b3 (by omega), relT_le hs (by omega), ht, hC⟩
theorem lc_undo (h : lawR B RA RI RC na ni dy vl db first size HS Cf len S Pa Tx st ln) : ∃ r size' st' S', ∃ T : SV, fX8_undo first size HS RA RI RC na ni dy vl db = (r, size', T) ∧ fX9_undo S Pa st = (r, S', st') ∧ lawR B T.1 T.2.1 T.2.2.1 T.2.2.2.1 T.2.2.2.2.1 T.2.2.2.2.2.1 T.2.2.2.2.2.2.1 T.2.2.2.2.2.2.2 first size' HS Cf len S' Pa Tx st' ln := by
  obtain ⟨f, z, L, g, rfl, rfl, rfl, rfl, rfl, hh, hr, ht, hC⟩ := h
  obtain ⟨r, z', T, S', e1, e2, e3, e4⟩ := sim_undo hh hr
  exact ⟨r, nI z', nI z', S', T, e1, e2, f, z', L, g, rfl, rfl, rfl, rfl, rfl, e4, e3, ht, hC⟩
theorem lc_type (h : lawR B RA RI RC na ni dy vl db first size HS Cf len S Pa Tx st ln) (x1 : Int32) : (fX8_type Cf len x1).1 = (fX9_type Tx ln x1).1 ∧ lawR B RA RI RC na ni dy vl db first size HS (fX8_type Cf len x1).2.1 (fX8_type Cf len x1).2.2 S Pa (fX9_type Tx ln x1).2.1 st (fX9_type Tx ln x1).2.2 := by
  obtain ⟨f, z, L, g, rfl, rfl, rfl, rfl, rfl, hh, hr, ht, hC⟩ := h
  obtain ⟨e1, e2, ⟨L', g', e3, e4⟩, e5⟩ := sim_type ht hC x1
  exact ⟨e1, f, z, L', g', rfl, rfl, rfl, e3, e2.symm.trans e3, hh, hr, e4, e5⟩
theorem lc_clearText (h : lawR B RA RI RC na ni dy vl db first size HS Cf len S Pa Tx st ln) : (fX8_clearText len).1 = (fX9_clearText ln).1 ∧ lawR B RA RI RC na ni dy vl db first size HS Cf (fX8_clearText len).2 S Pa Tx st (fX9_clearText ln).2 := by
  obtain ⟨f, z, L, g, rfl, rfl, rfl, rfl, rfl, hh, hr, ht, hC⟩ := h
  obtain ⟨e1, e2, e3⟩ := sim_clear ht
  exact ⟨by rw [e1], f, z, 0, fun _ => 0, rfl, rfl, rfl, e2, by rw [← e1]; exact e2, hh, hr, e3, hC⟩
theorem lc_fault (h : lawR B RA RI RC na ni dy vl db first size HS Cf len S Pa Tx st ln) (cm ps rs : Int32) (Nf : Nat → Int32) (vb : Option Nat) (pos : Int32) (SA SI SC Bg Nu : Nat → Int32) (na2 ni2 dy2 vl2 db2 ps9 : Int32) (fm : Bool) (rs9 x1 : Int32) (hB : B + 160 < 2 ^ 31 - 3) : (fX8_fault cm ps rs Cf Nf len vb pos RA RI RC na ni dy vl db SA SI SC na2 ni2 dy2 vl2 db2 x1).1 = (fX9_fault S Bg Tx Nu ln ps9 fm rs9 x1).1 ∧ lawR B RA RI RC na ni dy vl db first size HS Cf len (fX9_fault S Bg Tx Nu ln ps9 fm rs9 x1).2.1 Pa Tx st ln := by
  obtain ⟨f, z, L, g, rfl, rfl, rfl, rfl, rfl, hh, hr, ht, hC⟩ := h
  obtain ⟨e1, e2⟩ := sim_fault ht cm ps rs Nf vb pos hr SA SI SC Bg Nu na2 ni2 dy2 vl2 db2 ps9 fm rs9 x1 hB
  exact ⟨e1, f, z, L, g, rfl, rfl, rfl, rfl, rfl, hh, e2, ht, hC⟩
theorem lc_play (h : lawR B RA RI RC na ni dy vl db first size HS Cf len S Pa Tx st ln) (cm ps rs : Int32) (Nf : Nat → Int32) (vb : Option Nat) (pos : Int32) (SA SI SC Bg Nu : Nat → Int32) (na2 ni2 dy2 vl2 db2 : Int32) (fm : Bool) (rs9 : Int32) (hB : B + 160 < 2 ^ 31 - 3) :
    ∃ r first' size' st' HS', ∃ (T : SV) (X : XT), ∃ S' Bg' Pa' Nu' p9 fm' rs', fX8_play cm ps rs Cf Nf len vb pos RA RI RC na ni dy vl db SA SI SC na2 ni2 dy2 vl2 db2 first size HS = (r, X.1, X.2.1, X.2.2.1, X.2.2.2.1, X.2.2.2.2.1, X.2.2.2.2.2.1, X.2.2.2.2.2.2.1, X.2.2.2.2.2.2.2.1, X.2.2.2.2.2.2.2.2.1, X.2.2.2.2.2.2.2.2.2.1, X.2.2.2.2.2.2.2.2.2.2.1, X.2.2.2.2.2.2.2.2.2.2.2.1, X.2.2.2.2.2.2.2.2.2.2.2.2.1, X.2.2.2.2.2.2.2.2.2.2.2.2.2, T.1, T.2.1, T.2.2.1, T.2.2.2.1, T.2.2.2.2.1, T.2.2.2.2.2.1, T.2.2.2.2.2.2.1, T.2.2.2.2.2.2.2, HS', first', size') ∧
      fX9_play S Bg Pa Tx Nu st ln fm rs9 = (r, S', Bg', Pa', Nu', st', p9, fm', rs') ∧ lawR (B + 160) T.1 T.2.1 T.2.2.1 T.2.2.2.1 T.2.2.2.2.1 T.2.2.2.2.2.1 T.2.2.2.2.2.2.1 T.2.2.2.2.2.2.2 first' size' HS' Cf len S' Pa' Tx st' ln := by
  obtain ⟨f, z, L, g, rfl, rfl, rfl, rfl, rfl, hh, hr, ht, hC⟩ := h
  obtain ⟨r, f', z', HS', T, X, S', Bg', Pa', Nu', p9, fm', rs', e1, e2, e3, e4⟩ := sim_play ht cm ps rs Nf vb pos hr hh SA SI SC Bg Nu na2 ni2 dy2 vl2 db2 fm rs9 hB
  exact ⟨r, nI f', nI z', nI z', HS', T, X, S', Bg', Pa', Nu', p9, fm', rs', e1, e2, f', z', L, g, rfl, rfl, rfl, rfl, rfl, e4, e3, ht, hC⟩
theorem lc_addressOf (h : lawR B RA RI RC na ni dy vl db first size HS Cf len S Pa Tx st ln) (x1 x2 : Int32) : fX8_addressOf RA na x1 x2 = fX9_addressOf S x1 x2 := by
  obtain ⟨f, z, L, g, rfl, rfl, rfl, rfl, rfl, hh, ⟨n, k, rfl, rfl, hr⟩, ht, hC⟩ := h
  exact sim_addressOf hr x1 x2
theorem lc_interviewerOf (h : lawR B RA RI RC na ni dy vl db first size HS Cf len S Pa Tx st ln) (x1 x2 : Int32) : fX8_interviewerOf RI ni x1 x2 = fX9_interviewerOf S x1 x2 := by
  obtain ⟨f, z, L, g, rfl, rfl, rfl, rfl, rfl, hh, ⟨n, k, rfl, rfl, hr⟩, ht, hC⟩ := h
  exact sim_interviewerOf hr x1 x2
theorem lc_addresses (h : lawR B RA RI RC na ni dy vl db first size HS Cf len S Pa Tx st ln) (x1 : Int32) : fX8_addresses RA na dy x1 = fX9_addresses S x1 := by
  obtain ⟨f, z, L, g, rfl, rfl, rfl, rfl, rfl, hh, ⟨n, k, rfl, rfl, hr⟩, ht, hC⟩ := h
  exact sim_addresses hr x1
theorem lc_next (h : lawR B RA RI RC na ni dy vl db first size HS Cf len S Pa Tx st ln) (hB : B < 999999) (x1 x2 : Int32) : fX8_next RA RI RC na ni dy db x1 x2 = fX9_next S x1 x2 := by
  obtain ⟨f, z, L, g, rfl, rfl, rfl, rfl, rfl, hh, ⟨n, k, rfl, rfl, hr⟩, ht, hC⟩ := h
  exact sim_next hr hB x1 x2
theorem lc_possible (h : lawR B RA RI RC na ni dy vl db first size HS Cf len S Pa Tx st ln) (hB : B < 999999) (x1 x2 : Int32) : fX8_possible RA RI na ni dy db x1 x2 = fX9_possible S x1 x2 := by
  obtain ⟨f, z, L, g, rfl, rfl, rfl, rfl, rfl, hh, ⟨n, k, rfl, rfl, hr⟩, ht, hC⟩ := h
  exact sim_possible hr (by omega) x1 x2
theorem lc_daysLeft (h : lawR B RA RI RC na ni dy vl db first size HS Cf len S Pa Tx st ln) (hB : B < 999999) : fX8_daysLeft RA RI na ni vl = fX9_daysLeft S := by
  obtain ⟨f, z, L, g, rfl, rfl, rfl, rfl, rfl, hh, ⟨n, k, rfl, rfl, hr⟩, ht, hC⟩ := h
  exact sim_daysLeft hr (by omega)
theorem lc_count (h : lawR B RA RI RC na ni dy vl db first size HS Cf len S Pa Tx st ln) (x1 : Int32) : fX8_count RA RC na ni dy vl db size len x1 = fX9_count S st ln x1 := by
  obtain ⟨f, z, L, g, rfl, rfl, rfl, rfl, rfl, hh, ⟨n, k, rfl, rfl, hr⟩, ht, hC⟩ := h
  exact sim_count hr _ _ x1
theorem lr_ok (h : lawR B RA RI RC na ni dy vl db first size HS Cf len S Pa Tx st ln) : okS S := by
  obtain ⟨n, k, -, -, hr⟩ := lr_rel h
  obtain ⟨⟨hn, hk⟩, ⟨h0, h1, -⟩, -⟩ := hr.1
  refine ⟨by rw [h0]; exact vp_nI (by omega) (by decide), by rw [h1]; exact vp_nI (by omega) (by decide), fun a ha => ?_⟩
  obtain ⟨j, hj, rfl⟩ := vp_in_of ha (by decide)
  have e : fX9_of S (nI j) 0 = S (iP j 0) := by
    have h2 := eP (a := j) (c := 0) hj (by decide)
    show S ((74 + 10 * nI j) + 0).toNatClampNeg = _
    rw [← h2]
    rfl
  rw [e]
  by_cases c : j < n
  · obtain ⟨q1, q2⟩ := (hr.2.1 j c).2.1
    exact vp_in_iff.mpr ⟨q1, by omega⟩
  · rw [(hr.2.2.1 j (by omega) hj 0 (by decide)).2]
    exact vp_nI (f := 0) (by decide) (by decide)
end CASES
