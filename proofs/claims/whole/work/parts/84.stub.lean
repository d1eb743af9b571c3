section STUB
variable {B : Nat} {RA RI RC : Nat → Int32} {na ni dy vl db first size : Int32} {HS : Nat → SV} {Cf : Nat → Int32} {len : Int32} {S Pa Tx : Nat → Int32} {st ln : Int32}
theorem lc_cellOf (h : lawR B RA RI RC na ni dy vl db first size HS Cf len S Pa Tx st ln) (x1 x2 x3 : Int32) : fX8_cellOf RC x1 x2 x3 = fX9_cellOf S x1 x2 x3 := by sorry
theorem lc_rateBits (h : lawR B RA RI RC na ni dy vl db first size HS Cf len S Pa Tx st ln) : fX8_rateBits RA na = fX9_rateBits S := by sorry
theorem lc_partBits (h : lawR B RA RI RC na ni dy vl db first size HS Cf len S Pa Tx st ln) (x1 : Int32) : fX8_partBits RC x1 = fX9_partBits S x1 := by sorry
end STUB
