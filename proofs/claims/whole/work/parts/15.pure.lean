/-! plain facts and the plain functions that both sides come to -/
theorem fa_lt (a b : Int32) : a < b ↔ a.toInt < b.toInt := Int32.lt_iff_toInt_lt
theorem fa_le (a b : Int32) : a ≤ b ↔ a.toInt ≤ b.toInt := Int32.le_iff_toInt_le
theorem fa_eq (a b : Int32) : a = b ↔ a.toInt = b.toInt := ⟨fun h => by rw [h], fun h => Int32.toInt_inj.mp h⟩
theorem fa_lt64 (a b : Int64) : a < b ↔ a.toInt < b.toInt := Int64.lt_iff_toInt_lt
theorem fa_le64 (a b : Int64) : a ≤ b ↔ a.toInt ≤ b.toInt := Int64.le_iff_toInt_le
theorem fa_nlt64 {a b : Int64} (h : ¬ a < b) : b ≤ a := by rw [fa_lt64] at h; rw [fa_le64]; omega
theorem fa_lt_nle64 {a b : Int64} (h : a < b) : ¬ b ≤ a := by rw [fa_lt64] at h; rw [fa_le64]; omega
def heldF (x y z : Int32) : Int32 := if y ≤ x then (if x ≤ z then x else z) else y
def sizeF (x : Int32) : Int32 := if 0 ≤ x then x else -x
def rowM (d : Nat → Int32) (r : Nat) : Nat → Int32 := fun w => d (25 + 8 * w + r)
def fnd (v : SV) (j : Nat) : SV := up v 58 j (v.1 58 j + 1)
def wantF (R : Nat → Int32) (x : Int32) : Prop := (R 2 >>> (x &&& 31)) &&& 1 = 1
def onesF (x : Int32) : Nat → Int32
  | 0 => 0
  | k + 1 => onesF x k + ((x >>> (nI k &&& 31)) &&& 1)
def hearF (R : Nat → Int32) (loud : Int32) : Int32 :=
  if R 0 = 1 then loud + 2 else if R 0 = 2 then 2 * loud else if R 0 = 3 then (loud + 2) / 2 else if R 0 = 4 then (loud + 2) / 2 + (if 50 ≤ R 3 then 1 else 0) else if R 0 = 5 then 0 else if R 0 = 6 then 15 else loud
def trustF (R : Nat → Int32) : Int32 :=
  if R 0 = 1 then 10 else if R 0 = 3 then 40 else if R 0 = 4 then 0 else if R 0 = 6 then (if 10 ≤ R 4 then 60 else 20) else 20
def loseF (R : Nat → Int32) : Int32 :=
  if R 0 = 1 then 5 else if R 0 = 2 then 16 else if R 0 = 3 then 5 else if R 0 = 4 then 1 else if R 0 = 5 then 8 + onesF (R 2) 12 else if R 0 = 6 then 10 else 8
def mendF (R : Nat → Int32) : Int32 :=
  if R 0 = 1 then 3 else if R 0 = 3 then 3 else if R 0 = 4 then 6 else if R 0 = 5 then 0 else if R 0 = 6 then 5 else 2
