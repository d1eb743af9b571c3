/-! rows of numbers: places, reads and writes -/
def iA (a c : Nat) : Nat := 10 * a + c
def iP (a c : Nat) : Nat := 74 + 10 * a + c
def iI (i c : Nat) : Nat := 6 * i + c
def iW (i c : Nat) : Nat := 44 + 6 * i + c
def iD (x g c : Nat) : Nat := 3 * (3 * x + g) + c
def iC (x g c : Nat) : Nat := 8 + 3 * (3 * x + g) + c
theorem get_at {n : Nat} {A : Nat → Int32} {cols row col : Int32} {j : Nat} (h : row * cols + col = nI j) (hj : j < n) (hn : n < 2 ^ 31) : fX6_get n A cols row col = A j := by
  show (if row * cols + col < 0 then 0 else (if Int32.ofNat n ≤ row * cols + col then 0 else A (row * cols + col).toNatClampNeg)) = A j
  rw [h]
  exact (if_neg (nI_pos (by omega))).trans ((if_neg (nI_ge hj hn)).trans (by rw [nI_clamp (by omega)]))
theorem put_at {n : Nat} {A : Nat → Int32} {cols row col v : Int32} {j : Nat} (h : row * cols + col = nI j) (hj : j < n) (hn : n < 2 ^ 31) : fX6_put n A cols row col v = upd A j v := by
  show (if row * cols + col < 0 then A else (if Int32.ofNat n ≤ row * cols + col then A else upd A (row * cols + col).toNatClampNeg v)) = upd A j v
  rw [h]
  exact (if_neg (nI_pos (by omega))).trans ((if_neg (nI_ge hj hn)).trans (by rw [nI_clamp (by omega)]))
theorem inc_at {n : Nat} {A : Nat → Int32} {cols row col : Int32} {j : Nat} (h : row * cols + col = nI j) (hj : j < n) (hn : n < 2 ^ 31) : fX6_increase n A cols row col = upd A j (A j + 1) := by
  unfold fX6_increase
  rw [bd1_e (get_at h hj hn), bd1_e (put_at h hj hn)]
theorem eA {a c : Nat} : nI a * nI 10 + nI c = nI (iA a c) := by rw [pk_mul, nI_add]; congr 1; unfold iA; omega
theorem eI {a c : Nat} : nI a * nI 6 + nI c = nI (iI a c) := by rw [pk_mul, nI_add]; congr 1; unfold iI; omega
theorem eD {x g c : Nat} : (nI x * nI 3 + nI g) * nI 3 + nI c = nI (iD x g c) := by rw [pk_mul, nI_add, pk_mul, nI_add]; congr 1; unfold iD; omega
theorem eP {a c : Nat} (ha : a < 24) (hc : c < 10) : (nI 74 + nI 10 * nI a + nI c).toNatClampNeg = iP a c := by rw [pk_mul, nI_add, nI_add, nI_clamp (by omega)]; rfl
theorem eW {a c : Nat} (ha : a < 5) (hc : c < 6) : (nI 44 + nI 6 * nI a + nI c).toNatClampNeg = iW a c := by rw [pk_mul, nI_add, nI_add, nI_clamp (by omega)]; rfl
theorem eC {x g c : Nat} (hx : x < 4) (hg : g < 3) (hc : c < 3) : (nI 8 + nI 3 * (nI 3 * nI x + nI g) + nI c).toNatClampNeg = iC x g c := by rw [pk_mul, nI_add, pk_mul, nI_add, nI_add, nI_clamp (by omega)]; rfl
theorem lA {a c : Nat} (ha : a < 24) (hc : c < 10) : iA a c < 240 := by unfold iA; omega
theorem lI {a c : Nat} (ha : a < 5) (hc : c < 6) : iI a c < 30 := by unfold iI; omega
theorem lD {x g c : Nat} (hx : x < 4) (hg : g < 3) (hc : c < 3) : iD x g c < 36 := by unfold iD; omega
theorem lP {a c : Nat} (ha : a < 24) (hc : c < 10) : iP a c < 314 := by unfold iP; omega
theorem lW {a c : Nat} (ha : a < 5) (hc : c < 6) : iW a c < 314 := by unfold iW; omega
theorem lC {x g c : Nat} (hx : x < 4) (hg : g < 3) (hc : c < 3) : iC x g c < 314 := by unfold iC; omega
theorem gA_0 {RA : Nat → Int32} {a : Nat} (ha : a < 24) : fX6_get 240 RA 10 (nI a) 0 = RA (iA a 0) := get_at (eA (c := 0)) (lA ha (by decide)) (by decide)
theorem pA_0 {RA : Nat → Int32} {a : Nat} {v : Int32} (ha : a < 24) : fX6_put 240 RA 10 (nI a) 0 v = upd RA (iA a 0) v := put_at (eA (c := 0)) (lA ha (by decide)) (by decide)
theorem nA_0 {RA : Nat → Int32} {a : Nat} (ha : a < 24) : fX6_increase 240 RA 10 (nI a) 0 = upd RA (iA a 0) (RA (iA a 0) + 1) := inc_at (eA (c := 0)) (lA ha (by decide)) (by decide)
theorem tP_0 {a : Nat} (ha : a < 24) : ((74 + (10 * nI a)) + 0).toNatClampNeg = iP a 0 := eP (c := 0) ha (by decide)
theorem oP_0 {S : Nat → Int32} {a : Nat} (ha : a < 24) : fX9_of S (nI a) 0 = S (iP a 0) := congrArg S (tP_0 ha)
theorem gA_1 {RA : Nat → Int32} {a : Nat} (ha : a < 24) : fX6_get 240 RA 10 (nI a) 1 = RA (iA a 1) := get_at (eA (c := 1)) (lA ha (by decide)) (by decide)
theorem pA_1 {RA : Nat → Int32} {a : Nat} {v : Int32} (ha : a < 24) : fX6_put 240 RA 10 (nI a) 1 v = upd RA (iA a 1) v := put_at (eA (c := 1)) (lA ha (by decide)) (by decide)
theorem nA_1 {RA : Nat → Int32} {a : Nat} (ha : a < 24) : fX6_increase 240 RA 10 (nI a) 1 = upd RA (iA a 1) (RA (iA a 1) + 1) := inc_at (eA (c := 1)) (lA ha (by decide)) (by decide)
theorem tP_1 {a : Nat} (ha : a < 24) : ((74 + (10 * nI a)) + 1).toNatClampNeg = iP a 1 := eP (c := 1) ha (by decide)
theorem oP_1 {S : Nat → Int32} {a : Nat} (ha : a < 24) : fX9_of S (nI a) 1 = S (iP a 1) := congrArg S (tP_1 ha)
theorem gA_2 {RA : Nat → Int32} {a : Nat} (ha : a < 24) : fX6_get 240 RA 10 (nI a) 2 = RA (iA a 2) := get_at (eA (c := 2)) (lA ha (by decide)) (by decide)
theorem pA_2 {RA : Nat → Int32} {a : Nat} {v : Int32} (ha : a < 24) : fX6_put 240 RA 10 (nI a) 2 v = upd RA (iA a 2) v := put_at (eA (c := 2)) (lA ha (by decide)) (by decide)
theorem nA_2 {RA : Nat → Int32} {a : Nat} (ha : a < 24) : fX6_increase 240 RA 10 (nI a) 2 = upd RA (iA a 2) (RA (iA a 2) + 1) := inc_at (eA (c := 2)) (lA ha (by decide)) (by decide)
theorem tP_2 {a : Nat} (ha : a < 24) : ((74 + (10 * nI a)) + 2).toNatClampNeg = iP a 2 := eP (c := 2) ha (by decide)
theorem oP_2 {S : Nat → Int32} {a : Nat} (ha : a < 24) : fX9_of S (nI a) 2 = S (iP a 2) := congrArg S (tP_2 ha)
theorem gA_3 {RA : Nat → Int32} {a : Nat} (ha : a < 24) : fX6_get 240 RA 10 (nI a) 3 = RA (iA a 3) := get_at (eA (c := 3)) (lA ha (by decide)) (by decide)
theorem pA_3 {RA : Nat → Int32} {a : Nat} {v : Int32} (ha : a < 24) : fX6_put 240 RA 10 (nI a) 3 v = upd RA (iA a 3) v := put_at (eA (c := 3)) (lA ha (by decide)) (by decide)
theorem nA_3 {RA : Nat → Int32} {a : Nat} (ha : a < 24) : fX6_increase 240 RA 10 (nI a) 3 = upd RA (iA a 3) (RA (iA a 3) + 1) := inc_at (eA (c := 3)) (lA ha (by decide)) (by decide)
theorem tP_3 {a : Nat} (ha : a < 24) : ((74 + (10 * nI a)) + 3).toNatClampNeg = iP a 3 := eP (c := 3) ha (by decide)
theorem oP_3 {S : Nat → Int32} {a : Nat} (ha : a < 24) : fX9_of S (nI a) 3 = S (iP a 3) := congrArg S (tP_3 ha)
theorem gA_4 {RA : Nat → Int32} {a : Nat} (ha : a < 24) : fX6_get 240 RA 10 (nI a) 4 = RA (iA a 4) := get_at (eA (c := 4)) (lA ha (by decide)) (by decide)
theorem pA_4 {RA : Nat → Int32} {a : Nat} {v : Int32} (ha : a < 24) : fX6_put 240 RA 10 (nI a) 4 v = upd RA (iA a 4) v := put_at (eA (c := 4)) (lA ha (by decide)) (by decide)
theorem nA_4 {RA : Nat → Int32} {a : Nat} (ha : a < 24) : fX6_increase 240 RA 10 (nI a) 4 = upd RA (iA a 4) (RA (iA a 4) + 1) := inc_at (eA (c := 4)) (lA ha (by decide)) (by decide)
theorem tP_4 {a : Nat} (ha : a < 24) : ((74 + (10 * nI a)) + 4).toNatClampNeg = iP a 4 := eP (c := 4) ha (by decide)
theorem oP_4 {S : Nat → Int32} {a : Nat} (ha : a < 24) : fX9_of S (nI a) 4 = S (iP a 4) := congrArg S (tP_4 ha)
theorem gA_5 {RA : Nat → Int32} {a : Nat} (ha : a < 24) : fX6_get 240 RA 10 (nI a) 5 = RA (iA a 5) := get_at (eA (c := 5)) (lA ha (by decide)) (by decide)
theorem pA_5 {RA : Nat → Int32} {a : Nat} {v : Int32} (ha : a < 24) : fX6_put 240 RA 10 (nI a) 5 v = upd RA (iA a 5) v := put_at (eA (c := 5)) (lA ha (by decide)) (by decide)
theorem nA_5 {RA : Nat → Int32} {a : Nat} (ha : a < 24) : fX6_increase 240 RA 10 (nI a) 5 = upd RA (iA a 5) (RA (iA a 5) + 1) := inc_at (eA (c := 5)) (lA ha (by decide)) (by decide)
theorem tP_5 {a : Nat} (ha : a < 24) : ((74 + (10 * nI a)) + 5).toNatClampNeg = iP a 5 := eP (c := 5) ha (by decide)
theorem oP_5 {S : Nat → Int32} {a : Nat} (ha : a < 24) : fX9_of S (nI a) 5 = S (iP a 5) := congrArg S (tP_5 ha)
theorem gA_6 {RA : Nat → Int32} {a : Nat} (ha : a < 24) : fX6_get 240 RA 10 (nI a) 6 = RA (iA a 6) := get_at (eA (c := 6)) (lA ha (by decide)) (by decide)
theorem pA_6 {RA : Nat → Int32} {a : Nat} {v : Int32} (ha : a < 24) : fX6_put 240 RA 10 (nI a) 6 v = upd RA (iA a 6) v := put_at (eA (c := 6)) (lA ha (by decide)) (by decide)
theorem nA_6 {RA : Nat → Int32} {a : Nat} (ha : a < 24) : fX6_increase 240 RA 10 (nI a) 6 = upd RA (iA a 6) (RA (iA a 6) + 1) := inc_at (eA (c := 6)) (lA ha (by decide)) (by decide)
theorem tP_6 {a : Nat} (ha : a < 24) : ((74 + (10 * nI a)) + 6).toNatClampNeg = iP a 6 := eP (c := 6) ha (by decide)
theorem oP_6 {S : Nat → Int32} {a : Nat} (ha : a < 24) : fX9_of S (nI a) 6 = S (iP a 6) := congrArg S (tP_6 ha)
theorem gA_7 {RA : Nat → Int32} {a : Nat} (ha : a < 24) : fX6_get 240 RA 10 (nI a) 7 = RA (iA a 7) := get_at (eA (c := 7)) (lA ha (by decide)) (by decide)
theorem pA_7 {RA : Nat → Int32} {a : Nat} {v : Int32} (ha : a < 24) : fX6_put 240 RA 10 (nI a) 7 v = upd RA (iA a 7) v := put_at (eA (c := 7)) (lA ha (by decide)) (by decide)
theorem nA_7 {RA : Nat → Int32} {a : Nat} (ha : a < 24) : fX6_increase 240 RA 10 (nI a) 7 = upd RA (iA a 7) (RA (iA a 7) + 1) := inc_at (eA (c := 7)) (lA ha (by decide)) (by decide)
theorem tP_7 {a : Nat} (ha : a < 24) : ((74 + (10 * nI a)) + 7).toNatClampNeg = iP a 7 := eP (c := 7) ha (by decide)
theorem oP_7 {S : Nat → Int32} {a : Nat} (ha : a < 24) : fX9_of S (nI a) 7 = S (iP a 7) := congrArg S (tP_7 ha)
theorem gA_8 {RA : Nat → Int32} {a : Nat} (ha : a < 24) : fX6_get 240 RA 10 (nI a) 8 = RA (iA a 8) := get_at (eA (c := 8)) (lA ha (by decide)) (by decide)
theorem pA_8 {RA : Nat → Int32} {a : Nat} {v : Int32} (ha : a < 24) : fX6_put 240 RA 10 (nI a) 8 v = upd RA (iA a 8) v := put_at (eA (c := 8)) (lA ha (by decide)) (by decide)
theorem nA_8 {RA : Nat → Int32} {a : Nat} (ha : a < 24) : fX6_increase 240 RA 10 (nI a) 8 = upd RA (iA a 8) (RA (iA a 8) + 1) := inc_at (eA (c := 8)) (lA ha (by decide)) (by decide)
theorem tP_8 {a : Nat} (ha : a < 24) : ((74 + (10 * nI a)) + 8).toNatClampNeg = iP a 8 := eP (c := 8) ha (by decide)
theorem oP_8 {S : Nat → Int32} {a : Nat} (ha : a < 24) : fX9_of S (nI a) 8 = S (iP a 8) := congrArg S (tP_8 ha)
theorem gA_9 {RA : Nat → Int32} {a : Nat} (ha : a < 24) : fX6_get 240 RA 10 (nI a) 9 = RA (iA a 9) := get_at (eA (c := 9)) (lA ha (by decide)) (by decide)
theorem pA_9 {RA : Nat → Int32} {a : Nat} {v : Int32} (ha : a < 24) : fX6_put 240 RA 10 (nI a) 9 v = upd RA (iA a 9) v := put_at (eA (c := 9)) (lA ha (by decide)) (by decide)
theorem nA_9 {RA : Nat → Int32} {a : Nat} (ha : a < 24) : fX6_increase 240 RA 10 (nI a) 9 = upd RA (iA a 9) (RA (iA a 9) + 1) := inc_at (eA (c := 9)) (lA ha (by decide)) (by decide)
theorem tP_9 {a : Nat} (ha : a < 24) : ((74 + (10 * nI a)) + 9).toNatClampNeg = iP a 9 := eP (c := 9) ha (by decide)
theorem oP_9 {S : Nat → Int32} {a : Nat} (ha : a < 24) : fX9_of S (nI a) 9 = S (iP a 9) := congrArg S (tP_9 ha)
theorem gI_0 {RI : Nat → Int32} {a : Nat} (ha : a < 5) : fX6_get 30 RI 6 (nI a) 0 = RI (iI a 0) := get_at (eI (c := 0)) (lI ha (by decide)) (by decide)
theorem pI_0 {RI : Nat → Int32} {a : Nat} {v : Int32} (ha : a < 5) : fX6_put 30 RI 6 (nI a) 0 v = upd RI (iI a 0) v := put_at (eI (c := 0)) (lI ha (by decide)) (by decide)
theorem nI_0n {RI : Nat → Int32} {a : Nat} (ha : a < 5) : fX6_increase 30 RI 6 (nI a) 0 = upd RI (iI a 0) (RI (iI a 0) + 1) := inc_at (eI (c := 0)) (lI ha (by decide)) (by decide)
theorem tW_0 {a : Nat} (ha : a < 5) : ((44 + (6 * nI a)) + 0).toNatClampNeg = iW a 0 := eW (c := 0) ha (by decide)
theorem oW_0 {S : Nat → Int32} {a : Nat} (ha : a < 5) : fX9_ofWho S (nI a) 0 = S (iW a 0) := congrArg S (tW_0 ha)
theorem gI_1 {RI : Nat → Int32} {a : Nat} (ha : a < 5) : fX6_get 30 RI 6 (nI a) 1 = RI (iI a 1) := get_at (eI (c := 1)) (lI ha (by decide)) (by decide)
theorem pI_1 {RI : Nat → Int32} {a : Nat} {v : Int32} (ha : a < 5) : fX6_put 30 RI 6 (nI a) 1 v = upd RI (iI a 1) v := put_at (eI (c := 1)) (lI ha (by decide)) (by decide)
theorem nI_1n {RI : Nat → Int32} {a : Nat} (ha : a < 5) : fX6_increase 30 RI 6 (nI a) 1 = upd RI (iI a 1) (RI (iI a 1) + 1) := inc_at (eI (c := 1)) (lI ha (by decide)) (by decide)
theorem tW_1 {a : Nat} (ha : a < 5) : ((44 + (6 * nI a)) + 1).toNatClampNeg = iW a 1 := eW (c := 1) ha (by decide)
theorem oW_1 {S : Nat → Int32} {a : Nat} (ha : a < 5) : fX9_ofWho S (nI a) 1 = S (iW a 1) := congrArg S (tW_1 ha)
theorem gI_2 {RI : Nat → Int32} {a : Nat} (ha : a < 5) : fX6_get 30 RI 6 (nI a) 2 = RI (iI a 2) := get_at (eI (c := 2)) (lI ha (by decide)) (by decide)
theorem pI_2 {RI : Nat → Int32} {a : Nat} {v : Int32} (ha : a < 5) : fX6_put 30 RI 6 (nI a) 2 v = upd RI (iI a 2) v := put_at (eI (c := 2)) (lI ha (by decide)) (by decide)
theorem nI_2n {RI : Nat → Int32} {a : Nat} (ha : a < 5) : fX6_increase 30 RI 6 (nI a) 2 = upd RI (iI a 2) (RI (iI a 2) + 1) := inc_at (eI (c := 2)) (lI ha (by decide)) (by decide)
theorem tW_2 {a : Nat} (ha : a < 5) : ((44 + (6 * nI a)) + 2).toNatClampNeg = iW a 2 := eW (c := 2) ha (by decide)
theorem oW_2 {S : Nat → Int32} {a : Nat} (ha : a < 5) : fX9_ofWho S (nI a) 2 = S (iW a 2) := congrArg S (tW_2 ha)
theorem gI_3 {RI : Nat → Int32} {a : Nat} (ha : a < 5) : fX6_get 30 RI 6 (nI a) 3 = RI (iI a 3) := get_at (eI (c := 3)) (lI ha (by decide)) (by decide)
theorem pI_3 {RI : Nat → Int32} {a : Nat} {v : Int32} (ha : a < 5) : fX6_put 30 RI 6 (nI a) 3 v = upd RI (iI a 3) v := put_at (eI (c := 3)) (lI ha (by decide)) (by decide)
theorem nI_3n {RI : Nat → Int32} {a : Nat} (ha : a < 5) : fX6_increase 30 RI 6 (nI a) 3 = upd RI (iI a 3) (RI (iI a 3) + 1) := inc_at (eI (c := 3)) (lI ha (by decide)) (by decide)
theorem tW_3 {a : Nat} (ha : a < 5) : ((44 + (6 * nI a)) + 3).toNatClampNeg = iW a 3 := eW (c := 3) ha (by decide)
theorem oW_3 {S : Nat → Int32} {a : Nat} (ha : a < 5) : fX9_ofWho S (nI a) 3 = S (iW a 3) := congrArg S (tW_3 ha)
theorem gI_4 {RI : Nat → Int32} {a : Nat} (ha : a < 5) : fX6_get 30 RI 6 (nI a) 4 = RI (iI a 4) := get_at (eI (c := 4)) (lI ha (by decide)) (by decide)
theorem pI_4 {RI : Nat → Int32} {a : Nat} {v : Int32} (ha : a < 5) : fX6_put 30 RI 6 (nI a) 4 v = upd RI (iI a 4) v := put_at (eI (c := 4)) (lI ha (by decide)) (by decide)
theorem nI_4n {RI : Nat → Int32} {a : Nat} (ha : a < 5) : fX6_increase 30 RI 6 (nI a) 4 = upd RI (iI a 4) (RI (iI a 4) + 1) := inc_at (eI (c := 4)) (lI ha (by decide)) (by decide)
theorem tW_4 {a : Nat} (ha : a < 5) : ((44 + (6 * nI a)) + 4).toNatClampNeg = iW a 4 := eW (c := 4) ha (by decide)
theorem oW_4 {S : Nat → Int32} {a : Nat} (ha : a < 5) : fX9_ofWho S (nI a) 4 = S (iW a 4) := congrArg S (tW_4 ha)
theorem gI_5 {RI : Nat → Int32} {a : Nat} (ha : a < 5) : fX6_get 30 RI 6 (nI a) 5 = RI (iI a 5) := get_at (eI (c := 5)) (lI ha (by decide)) (by decide)
theorem pI_5 {RI : Nat → Int32} {a : Nat} {v : Int32} (ha : a < 5) : fX6_put 30 RI 6 (nI a) 5 v = upd RI (iI a 5) v := put_at (eI (c := 5)) (lI ha (by decide)) (by decide)
theorem nI_5n {RI : Nat → Int32} {a : Nat} (ha : a < 5) : fX6_increase 30 RI 6 (nI a) 5 = upd RI (iI a 5) (RI (iI a 5) + 1) := inc_at (eI (c := 5)) (lI ha (by decide)) (by decide)
theorem tW_5 {a : Nat} (ha : a < 5) : ((44 + (6 * nI a)) + 5).toNatClampNeg = iW a 5 := eW (c := 5) ha (by decide)
theorem oW_5 {S : Nat → Int32} {a : Nat} (ha : a < 5) : fX9_ofWho S (nI a) 5 = S (iW a 5) := congrArg S (tW_5 ha)
theorem gC_0 {RC : Nat → Int32} {x g : Nat} (hx : x < 4) (hg : g < 3) : fX6_get 36 RC 3 ((nI x * 3) + nI g) 0 = RC (iD x g 0) := get_at (eD (c := 0)) (lD hx hg (by decide)) (by decide)
theorem pC_0 {RC : Nat → Int32} {x g : Nat} {v : Int32} (hx : x < 4) (hg : g < 3) : fX6_put 36 RC 3 ((nI x * 3) + nI g) 0 v = upd RC (iD x g 0) v := put_at (eD (c := 0)) (lD hx hg (by decide)) (by decide)
theorem nC_0 {RC : Nat → Int32} {x g : Nat} (hx : x < 4) (hg : g < 3) : fX6_increase 36 RC 3 ((nI x * 3) + nI g) 0 = upd RC (iD x g 0) (RC (iD x g 0) + 1) := inc_at (eD (c := 0)) (lD hx hg (by decide)) (by decide)
theorem tC_0 {x g : Nat} (hx : x < 4) (hg : g < 3) : ((8 + (3 * ((3 * nI x) + nI g))) + 0).toNatClampNeg = iC x g 0 := eC (c := 0) hx hg (by decide)
theorem oC_0 {S : Nat → Int32} {x g : Nat} (hx : x < 4) (hg : g < 3) : fX9_ofCell S (nI x) (nI g) 0 = S (iC x g 0) := congrArg S (tC_0 hx hg)
theorem gC_1 {RC : Nat → Int32} {x g : Nat} (hx : x < 4) (hg : g < 3) : fX6_get 36 RC 3 ((nI x * 3) + nI g) 1 = RC (iD x g 1) := get_at (eD (c := 1)) (lD hx hg (by decide)) (by decide)
theorem pC_1 {RC : Nat → Int32} {x g : Nat} {v : Int32} (hx : x < 4) (hg : g < 3) : fX6_put 36 RC 3 ((nI x * 3) + nI g) 1 v = upd RC (iD x g 1) v := put_at (eD (c := 1)) (lD hx hg (by decide)) (by decide)
theorem nC_1 {RC : Nat → Int32} {x g : Nat} (hx : x < 4) (hg : g < 3) : fX6_increase 36 RC 3 ((nI x * 3) + nI g) 1 = upd RC (iD x g 1) (RC (iD x g 1) + 1) := inc_at (eD (c := 1)) (lD hx hg (by decide)) (by decide)
theorem tC_1 {x g : Nat} (hx : x < 4) (hg : g < 3) : ((8 + (3 * ((3 * nI x) + nI g))) + 1).toNatClampNeg = iC x g 1 := eC (c := 1) hx hg (by decide)
theorem oC_1 {S : Nat → Int32} {x g : Nat} (hx : x < 4) (hg : g < 3) : fX9_ofCell S (nI x) (nI g) 1 = S (iC x g 1) := congrArg S (tC_1 hx hg)
theorem gC_2 {RC : Nat → Int32} {x g : Nat} (hx : x < 4) (hg : g < 3) : fX6_get 36 RC 3 ((nI x * 3) + nI g) 2 = RC (iD x g 2) := get_at (eD (c := 2)) (lD hx hg (by decide)) (by decide)
theorem pC_2 {RC : Nat → Int32} {x g : Nat} {v : Int32} (hx : x < 4) (hg : g < 3) : fX6_put 36 RC 3 ((nI x * 3) + nI g) 2 v = upd RC (iD x g 2) v := put_at (eD (c := 2)) (lD hx hg (by decide)) (by decide)
theorem nC_2 {RC : Nat → Int32} {x g : Nat} (hx : x < 4) (hg : g < 3) : fX6_increase 36 RC 3 ((nI x * 3) + nI g) 2 = upd RC (iD x g 2) (RC (iD x g 2) + 1) := inc_at (eD (c := 2)) (lD hx hg (by decide)) (by decide)
theorem tC_2 {x g : Nat} (hx : x < 4) (hg : g < 3) : ((8 + (3 * ((3 * nI x) + nI g))) + 2).toNatClampNeg = iC x g 2 := eC (c := 2) hx hg (by decide)
theorem oC_2 {S : Nat → Int32} {x g : Nat} (hx : x < 4) (hg : g < 3) : fX9_ofCell S (nI x) (nI g) 2 = S (iC x g 2) := congrArg S (tC_2 hx hg)
theorem u_is {A : Nat → Int32} {i : Nat} {v : Int32} : upd A i v i = v := if_pos rfl
theorem u_no {A : Nat → Int32} {i j : Nat} {v : Int32} (h : j ≠ i) : upd A i v j = A j := if_neg h
theorem u_AA {A : Nat → Int32} {v : Int32} {a b c k : Nat} (hc : c < 10) (hk : k < 10) : upd A (iA a k) v (iA b c) = if b = a ∧ c = k then v else A (iA b c) := by
  unfold upd
  by_cases h : b = a ∧ c = k
  · rw [if_pos h, h.1, h.2, if_pos rfl]
  · rw [if_neg h, if_neg (fun e => h (by unfold iA at e; omega))]
theorem u_PP {A : Nat → Int32} {v : Int32} {a b c k : Nat} (hc : c < 10) (hk : k < 10) : upd A (iP a k) v (iP b c) = if b = a ∧ c = k then v else A (iP b c) := by
  unfold upd
  by_cases h : b = a ∧ c = k
  · rw [if_pos h, h.1, h.2, if_pos rfl]
  · rw [if_neg h, if_neg (fun e => h (by unfold iP at e; omega))]
theorem u_II {A : Nat → Int32} {v : Int32} {a b c k : Nat} (hc : c < 6) (hk : k < 6) : upd A (iI a k) v (iI b c) = if b = a ∧ c = k then v else A (iI b c) := by
  unfold upd
  by_cases h : b = a ∧ c = k
  · rw [if_pos h, h.1, h.2, if_pos rfl]
  · rw [if_neg h, if_neg (fun e => h (by unfold iI at e; omega))]
theorem u_WW {A : Nat → Int32} {v : Int32} {a b c k : Nat} (hc : c < 6) (hk : k < 6) : upd A (iW a k) v (iW b c) = if b = a ∧ c = k then v else A (iW b c) := by
  unfold upd
  by_cases h : b = a ∧ c = k
  · rw [if_pos h, h.1, h.2, if_pos rfl]
  · rw [if_neg h, if_neg (fun e => h (by unfold iW at e; omega))]
theorem u_DD {A : Nat → Int32} {v : Int32} {x g y f c k : Nat} (hg : g < 3) (hf : f < 3) (hc : c < 3) (hk : k < 3) : upd A (iD x g k) v (iD y f c) = if (y = x ∧ f = g) ∧ c = k then v else A (iD y f c) := by
  unfold upd
  by_cases h : (y = x ∧ f = g) ∧ c = k
  · rw [if_pos h, h.1.1, h.1.2, h.2, if_pos rfl]
  · rw [if_neg h, if_neg (fun e => h (by unfold iD at e; omega))]
theorem u_CC {A : Nat → Int32} {v : Int32} {x g y f c k : Nat} (hg : g < 3) (hf : f < 3) (hc : c < 3) (hk : k < 3) : upd A (iC x g k) v (iC y f c) = if (y = x ∧ f = g) ∧ c = k then v else A (iC y f c) := by
  unfold upd
  by_cases h : (y = x ∧ f = g) ∧ c = k
  · rw [if_pos h, h.1.1, h.1.2, h.2, if_pos rfl]
  · rw [if_neg h, if_neg (fun e => h (by unfold iC at e; omega))]
theorem u_PW {A : Nat → Int32} {v : Int32} {a k i c : Nat} (hi : i < 5) (hc : c < 6) : upd A (iP a k) v (iW i c) = A (iW i c) := u_no (by unfold iP iW; omega)
theorem u_PC {A : Nat → Int32} {v : Int32} {a k x g c : Nat} (hx : x < 4) (hg : g < 3) (hc : c < 3) : upd A (iP a k) v (iC x g c) = A (iC x g c) := u_no (by unfold iP iC; omega)
theorem u_Pn {A : Nat → Int32} {v : Int32} {a k n : Nat} (hn : n < 8) : upd A (iP a k) v n = A n := u_no (by unfold iP; omega)
theorem u_WP {A : Nat → Int32} {v : Int32} {a c i k : Nat} (hi : i < 5) (hk : k < 6) : upd A (iW i k) v (iP a c) = A (iP a c) := u_no (by unfold iP iW; omega)
theorem u_WC {A : Nat → Int32} {v : Int32} {i k x g c : Nat} (hx : x < 4) (hg : g < 3) (hc : c < 3) : upd A (iW i k) v (iC x g c) = A (iC x g c) := u_no (by unfold iW iC; omega)
theorem u_Wn {A : Nat → Int32} {v : Int32} {i k n : Nat} (hn : n < 8) : upd A (iW i k) v n = A n := u_no (by unfold iW; omega)
theorem u_CP {A : Nat → Int32} {v : Int32} {a c x g k : Nat} (hx : x < 4) (hg : g < 3) (hk : k < 3) : upd A (iC x g k) v (iP a c) = A (iP a c) := u_no (by unfold iP iC; omega)
theorem u_CW {A : Nat → Int32} {v : Int32} {i c x g k : Nat} (hx : x < 4) (hg : g < 3) (hk : k < 3) : upd A (iC x g k) v (iW i c) = A (iW i c) := u_no (by unfold iW iC; omega)
theorem u_Cn {A : Nat → Int32} {v : Int32} {x g k n : Nat} (hn : n < 8) : upd A (iC x g k) v n = A n := u_no (by unfold iC; omega)
theorem u_nP {A : Nat → Int32} {v : Int32} {a c n : Nat} (hn : n < 8) : upd A n v (iP a c) = A (iP a c) := u_no (by unfold iP; omega)
theorem u_nW {A : Nat → Int32} {v : Int32} {i c n : Nat} (hn : n < 8) : upd A n v (iW i c) = A (iW i c) := u_no (by unfold iW; omega)
theorem u_nC {A : Nat → Int32} {v : Int32} {x g c n : Nat} (hn : n < 8) : upd A n v (iC x g c) = A (iC x g c) := u_no (by unfold iC; omega)
theorem u_nn {A : Nat → Int32} {v : Int32} {m n : Nat} : upd A m v n = if n = m then v else A n := rfl
/-! sums from a place on -/
def sumF (f : Nat → Int32) : Nat → Nat → Int32
  | _, 0 => 0
  | i, m + 1 => f i + sumF f (i + 1) m
theorem sumF_end (f : Nat → Int32) : ∀ (m i : Nat), sumF f i (m + 1) = sumF f i m + f (i + m) := by
  intro m
  induction m with
  | zero => intro i; show f i + 0 = 0 + f i; rw [Int32.add_zero, Int32.zero_add]
  | succ m ih =>
    intro i
    show f i + sumF f (i + 1) (m + 1) = f i + sumF f (i + 1) m + f (i + (m + 1))
    rw [ih (i + 1), Int32.add_assoc, show i + 1 + m = i + (m + 1) by omega]
theorem sumF_eq {f g : Nat → Int32} : ∀ (m i : Nat), (∀ a, i ≤ a → a < i + m → f a = g a) → sumF f i m = sumF g i m := by
  intro m
  induction m with
  | zero => intro i _; rfl
  | succ m ih =>
    intro i h
    show f i + sumF f (i + 1) m = g i + sumF g (i + 1) m
    rw [h i (Nat.le_refl _) (by omega), ih (i + 1) (fun a h1 h2 => h a (by omega) (by omega))]
/-- one of them goes up -/
theorem sumF_up {f g : Nat → Int32} {d : Int32} {b : Nat} : ∀ (m i : Nat), i ≤ b → b < i + m → (∀ a, a ≠ b → g a = f a) → g b = f b + d → sumF g i m = sumF f i m + d := by
  intro m
  induction m with
  | zero => intro i h1 h2; omega
  | succ m ih =>
    intro i h1 h2 hn hb
    show g i + sumF g (i + 1) m = f i + sumF f (i + 1) m + d
    by_cases h : i = b
    · subst h
      rw [hb, sumF_eq m (i + 1) (fun a h3 _ => hn a (by omega)), Int32.add_assoc, Int32.add_comm d, Int32.add_assoc]
    · rw [hn i h, ih (i + 1) (by omega) (by omega) hn hb, Int32.add_assoc]
/-! the survey of the class and the reference's array -/
def rng (x : Int32) (lo hi : Int) : Prop := lo ≤ x.toInt ∧ x.toInt ≤ hi
def rowR (RA S : Nat → Int32) (a : Nat) : Prop :=
  (RA (iA a 0) = S (iP a 0) ∧ RA (iA a 1) = S (iP a 1) ∧ RA (iA a 2) = S (iP a 2) ∧ RA (iA a 3) = S (iP a 3)) ∧
  (RA (iA a 4) = (if S (iP a 2) = 0 then -4 else S (iP a 4)) ∧ RA (iA a 5) = (if S (iP a 2) = 0 then -4 else S (iP a 5)) ∧ RA (iA a 9) = (if S (iP a 2) = 0 then -4 else S (iP a 9))) ∧
  (RA (iA a 6) = (if S (iP a 6) = 0 then -4 else S (iP a 6) - 1) ∧ RA (iA a 7) = (if S (iP a 6) = 0 then -4 else S (iP a 7))) ∧
  RA (iA a 8) = (if S (iP a 1) = 1 then S (iP a 8) else -4)
def rowK (S : Nat → Int32) (B : Nat) (a : Nat) : Prop :=
  rng (S (iP a 0)) 0 3 ∧ (¬ S (iP a 1) = 0 → S (iP a 6) = 0) ∧ rng (S (iP a 6)) 0 1000 ∧ rng (S (iP a 2)) 0 B ∧ rng (S (iP a 3)) 0 B
def rowE (RA S : Nat → Int32) (a : Nat) : Prop := ∀ c, c < 10 → RA (iA a c) = 0 ∧ S (iP a c) = 0
def stR (RI S : Nat → Int32) (i : Nat) : Prop := ∀ c, c < 6 → RI (iI i c) = S (iW i c)
def stK (S : Nat → Int32) (i : Nat) : Prop := rng (S (iW i 0)) 0 3 ∧ rng (S (iW i 1)) 1 9 ∧ 0 ≤ (S (iW i 2)).toInt ∧ (S (iW i 2)).toInt ≤ (S (iW i 1)).toInt
def ceR (RC S : Nat → Int32) (x g : Nat) : Prop := ∀ c, c < 3 → RC (iD x g c) = S (iC x g c)
def ceK (S : Nat → Int32) (x g : Nat) : Prop := rng (S (iC x g 0)) 0 20 ∧ rng (S (iC x g 1)) 0 20 ∧ rng (S (iC x g 2)) 0 9999
def sums (S : Nat → Int32) (n : Nat) : Prop := S 3 = sumF (fun a => S (iP a 2)) 0 n ∧ S 4 = sumF (fun a => S (iP a 3)) 0 n ∧ S 5 = sumF (fun a => if S (iP a 1) = 1 then 1 else 0) 0 n
def heads (S : Nat → Int32) (n k : Nat) (dy vl db : Int32) : Prop := (n ≤ 24 ∧ k ≤ 5) ∧ (S 0 = nI n ∧ S 1 = nI k ∧ S 2 = dy ∧ S 6 = vl ∧ S 7 = db) ∧ rng dy 0 999 ∧ rng vl 1 9 ∧ rng db 0 9
def rel (B n k : Nat) (RA RI RC : Nat → Int32) (dy vl db : Int32) (S : Nat → Int32) : Prop :=
  heads S n k dy vl db ∧ (∀ a, a < n → rowR RA S a ∧ rowK S B a) ∧ (∀ a, n ≤ a → a < 24 → rowE RA S a) ∧ (∀ i, i < 5 → stR RI S i) ∧ (∀ i, i < k → stK S i) ∧ (∀ i, k ≤ i → i < 5 → S (iW i 2) = 0) ∧ (∀ x, x < 4 → ∀ g, g < 3 → ceR RC S x g ∧ ceK S x g) ∧ sums S n
def relT (B : Nat) (RA RI RC : Nat → Int32) (na ni dy vl db : Int32) (S : Nat → Int32) : Prop := ∃ n k, na = nI n ∧ ni = nI k ∧ rel B n k RA RI RC dy vl db S
theorem rng_le {x : Int32} {lo hi hi' : Int} (h : rng x lo hi) (hh : hi ≤ hi') : rng x lo hi' := ⟨h.1, Int.le_trans h.2 hh⟩
theorem rowK_le {S : Nat → Int32} {B B' a : Nat} (h : rowK S B a) (hB : B ≤ B') : rowK S B' a := ⟨h.1, h.2.1, h.2.2.1, rng_le h.2.2.2.1 (by omega), rng_le h.2.2.2.2 (by omega)⟩
theorem rel_le {B B' n k : Nat} {RA RI RC S : Nat → Int32} {dy vl db : Int32} (h : rel B n k RA RI RC dy vl db S) (hB : B ≤ B') : rel B' n k RA RI RC dy vl db S :=
  ⟨h.1, fun a ha => ⟨(h.2.1 a ha).1, rowK_le (h.2.1 a ha).2 hB⟩, h.2.2⟩
theorem relT_le {B B' : Nat} {RA RI RC S : Nat → Int32} {na ni dy vl db : Int32} (h : relT B RA RI RC na ni dy vl db S) (hB : B ≤ B') : relT B' RA RI RC na ni dy vl db S := by
  obtain ⟨n, k, e1, e2, h⟩ := h
  exact ⟨n, k, e1, e2, rel_le h hB⟩
/-! ranges -/
theorem in_eq : fX8_isWithin = fX9_in := rfl
theorem cell_eq : fX8_isCell = fX9_isCell := rfl
theorem in_rng {v lo hi : Int32} (h : fX9_in v lo hi = true) : lo.toInt ≤ v.toInt ∧ v.toInt ≤ hi.toInt := by
  unfold fX9_in at h
  split at h
  · cases h
  · split at h
    · cases h
    · rename_i h1 h2
      have h1 := (not_congr Int32.lt_iff_toInt_lt).mp h1
      have h2 := (not_congr Int32.lt_iff_toInt_lt).mp h2
      omega
theorem in_not {v lo hi : Int32} (h : ¬ fX9_in v lo hi = true) : ¬ (lo.toInt ≤ v.toInt ∧ v.toInt ≤ hi.toInt) := by
  intro g
  apply h
  unfold fX9_in
  rw [if_neg (fun q => by have := Int32.lt_iff_toInt_lt.mp q; omega), if_neg (fun q => by have := Int32.lt_iff_toInt_lt.mp q; omega)]
theorem nI_of_rng {v : Int32} {n : Nat} (hn : n < 2 ^ 31) (h0 : 0 ≤ v.toInt) (h1 : v.toInt < n) : ∃ a, a < n ∧ v = nI a := vp_in_of (vp_in_iff.mpr ⟨h0, h1⟩) hn
theorem idx_of {v : Int32} {n : Nat} (hn : n ≤ 24) (h : fX9_in v 0 (nI n - 1) = true) : ∃ a, a < n ∧ v = nI a := by
  have h1 := in_rng h
  have e0 : (0 : Int32).toInt = 0 := by decide
  rw [e0] at h1
  cases n with
  | zero =>
    have e : (nI 0 - 1).toInt = -1 := by decide
    rw [e] at h1
    omega
  | succ n =>
    rw [nI_pred, nI_toInt (by omega)] at h1
    exact nI_of_rng (by omega) h1.1 (by omega)
theorem rng_nI {v : Int32} {hi : Nat} (h : rng v 0 hi) (hh : hi < 2 ^ 31 - 1) : ∃ a, a ≤ hi ∧ v = nI a := by
  obtain ⟨a, ha, e⟩ := nI_of_rng (v := v) (n := hi + 1) (by omega) h.1 (by have := h.2; omega)
  exact ⟨a, by omega, e⟩
theorem ti_inc {x : Int32} {B : Nat} (h : rng x 0 B) (hB : B < 2 ^ 31 - 1) : (x + 1).toInt = x.toInt + 1 := by
  obtain ⟨h1, h2⟩ := h
  have e1 : (1 : Int32).toInt = 1 := by decide
  rw [Int32.toInt_add, e1]
  apply Int.bmod_eq_of_le <;> omega
theorem rng_inc {x : Int32} {B : Nat} (h : rng x 0 B) (hB : B < 2 ^ 31 - 1) : rng (x + 1) 0 ((B + 1 : Nat) : Int) := by
  have := ti_inc h hB
  obtain ⟨h1, h2⟩ := h
  exact ⟨by omega, by omega⟩
theorem inc_ne {x : Int32} {B : Nat} (h : rng x 0 B) (hB : B < 2 ^ 31 - 1) : ¬ x + 1 = 0 := by
  intro e
  have := ti_inc h hB
  rw [e] at this
  have e0 : (0 : Int32).toInt = 0 := by decide
  have := h.1
  omega
