section STUB
variable {B : Nat} {RA RI RC : Nat → Int32} {na ni dy vl db first size : Int32} {HS : Nat → SV} {Cf : Nat → Int32} {len : Int32} {S Pa Tx : Nat → Int32} {st ln : Int32}
theorem lc_partBits (h : lawR B RA RI RC na ni dy vl db first size HS Cf len S Pa Tx st ln) (x1 : Int32) : fX8_partBits RC x1 = fX9_partBits S x1 := by sorry
end STUB
