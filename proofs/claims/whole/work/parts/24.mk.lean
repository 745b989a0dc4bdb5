/-! the memory behind the constructors: its shape stands, its integers change -/
def am_shL (g : Nat → Int) : List am_C := [am_O 9 [.ref 1, .int (am_z (g 1)), .ref 2, .ref 3, .ref 8, .ref 52, .ref 63, .ref 66, .ref 44, .ref 48, .ref 50],
  am_I 1 100 (fun k => am_z (g k)),
  am_O 2 [.int (am_z (g 0)), .int (am_z (g 1))],
  am_O 4 [.ref 4, .ref 6],
  am_O 1 [.ref 5, .int (am_z (g 1)), .int (am_z (g 2))],
  am_I 0 202 (fun k => am_z (g k)),
  am_O 1 [.ref 7, .int (am_z (g 1)), .int (am_z (g 2))],
  am_I 0 202 (fun k => am_z (g k)),
  am_O 3 [.ref 9, .ref 10, .ref 11, .int (am_z (g 3))],
  am_R 4 8 (am_nmf 12 8),
  am_R 4 8 (am_nmf 14 8),
  am_I 2 8 (fun k => am_z (g k)),
  am_O 0 [.ref 13, .int (am_z (g 1)), .int (am_z (g 2))],
  am_I 0 80 (fun k => am_z (g k)),
  am_O 0 [.ref 15, .int (am_z (g 1)), .int (am_z (g 2))],
  am_I 0 80 (fun k => am_z (g k)),
  am_O 0 [.ref 17, .int (am_z (g 1)), .int (am_z (g 2))],
  am_I 0 80 (fun k => am_z (g k)),
  am_O 0 [.ref 19, .int (am_z (g 1)), .int (am_z (g 2))],
  am_I 0 80 (fun k => am_z (g k)),
  am_O 0 [.ref 21, .int (am_z (g 1)), .int (am_z (g 2))],
  am_I 0 80 (fun k => am_z (g k)),
  am_O 0 [.ref 23, .int (am_z (g 1)), .int (am_z (g 2))],
  am_I 0 80 (fun k => am_z (g k)),
  am_O 0 [.ref 25, .int (am_z (g 1)), .int (am_z (g 2))],
  am_I 0 80 (fun k => am_z (g k)),
  am_O 0 [.ref 27, .int (am_z (g 1)), .int (am_z (g 2))],
  am_I 0 80 (fun k => am_z (g k)),
  am_O 0 [.ref 29, .int (am_z (g 1)), .int (am_z (g 2))],
  am_I 0 80 (fun k => am_z (g k)),
  am_O 0 [.ref 31, .int (am_z (g 1)), .int (am_z (g 2))],
  am_I 0 80 (fun k => am_z (g k)),
  am_O 0 [.ref 33, .int (am_z (g 1)), .int (am_z (g 2))],
  am_I 0 80 (fun k => am_z (g k)),
  am_O 0 [.ref 35, .int (am_z (g 1)), .int (am_z (g 2))],
  am_I 0 80 (fun k => am_z (g k)),
  am_O 0 [.ref 37, .int (am_z (g 1)), .int (am_z (g 2))],
  am_I 0 80 (fun k => am_z (g k)),
  am_O 0 [.ref 39, .int (am_z (g 1)), .int (am_z (g 2))],
  am_I 0 80 (fun k => am_z (g k)),
  am_O 0 [.ref 41, .int (am_z (g 1)), .int (am_z (g 2))],
  am_I 0 80 (fun k => am_z (g k)),
  am_O 0 [.ref 43, .int (am_z (g 1)), .int (am_z (g 2))],
  am_I 0 80 (fun k => am_z (g k)),
  am_O 8 [.ref 45, .int (am_z (g 1)), .int (am_z (g 2)), .ref 46],
  am_I 1 480 (fun k => am_z (g k)),
  am_O 1 [.ref 47, .int (am_z (g 1)), .int (am_z (g 2))],
  am_I 0 202 (fun k => am_z (g k)),
  am_O 0 [.ref 49, .int (am_z (g 1)), .int (am_z (g 2))],
  am_I 0 80 (fun k => am_z (g k)),
  am_O 0 [.ref 51, .int (am_z (g 1)), .int (am_z (g 2))],
  am_I 0 80 (fun k => am_z (g k)),
  am_O 5 [.ref 8, .ref 2, .ref 53, .ref 55, .ref 56, .int (am_z (g 5)), .int (am_z (g 6)), .int (am_z (g 7)), .int (am_z (g 8)), .int (am_z (g 9)), .ref 57, .ref 58, .ref 59, .ref 60, .ref 61, .ref 62, .int (am_z (g 16))],
  am_O 0 [.ref 54, .int (am_z (g 1)), .int (am_z (g 2))],
  am_I 0 200 (fun k => am_z (g k)),
  am_I 0 200 (fun k => am_z (g k)),
  am_I 1 100 (fun k => am_z (g k)),
  am_I 1 100 (fun k => am_z (g k)),
  am_I 1 100 (fun k => am_z (g k)),
  am_I 0 100 (fun k => am_z (g k)),
  am_I 0 100 (fun k => am_z (g k)),
  am_I 0 100 (fun k => am_z (g k)),
  am_I 0 100 (fun k => am_z (g k)),
  am_O 6 [.ref 8, .ref 3, .ref 64],
  am_O 0 [.ref 65, .int (am_z (g 1)), .int (am_z (g 2))],
  am_I 0 80 (fun k => am_z (g k)),
  am_O 7 [.ref 52, .ref 53, .ref 8, .ref 63, .ref 3, .ref 2, .ref 67, .ref 68, .ref 70, .int (am_z (g 9))],
  am_R 4 54 (am_tyf 54),
  am_O 0 [.ref 69, .int (am_z (g 1)), .int (am_z (g 2))],
  am_I 0 80 (fun k => am_z (g k)),
  am_I 0 100 (fun k => am_z (g k)),
  am_O 0 [.ref 72, .int (am_z (g 1)), .int (am_z (g 2))],
  am_I 0 80 (fun k => am_z (g k)),
  am_O 0 [.ref 74, .int (am_z (g 1)), .int (am_z (g 2))],
  am_I 0 80 (fun k => am_z (g k)),
  am_O 0 [.ref 76, .int (am_z (g 1)), .int (am_z (g 2))],
  am_I 0 80 (fun k => am_z (g k)),
  am_O 0 [.ref 78, .int (am_z (g 1)), .int (am_z (g 2))],
  am_I 0 80 (fun k => am_z (g k)),
  am_O 0 [.ref 80, .int (am_z (g 1)), .int (am_z (g 2))],
  am_I 0 80 (fun k => am_z (g k)),
  am_O 0 [.ref 82, .int (am_z (g 1)), .int (am_z (g 2))],
  am_I 0 80 (fun k => am_z (g k)),
  am_O 0 [.ref 84, .int (am_z (g 1)), .int (am_z (g 2))],
  am_I 0 80 (fun k => am_z (g k)),
  am_O 0 [.ref 86, .int (am_z (g 1)), .int (am_z (g 2))],
  am_I 0 80 (fun k => am_z (g k)),
  am_O 0 [.ref 88, .int (am_z (g 1)), .int (am_z (g 2))],
  am_I 0 80 (fun k => am_z (g k)),
  am_O 0 [.ref 90, .int (am_z (g 1)), .int (am_z (g 2))],
  am_I 0 80 (fun k => am_z (g k)),
  am_O 0 [.ref 92, .int (am_z (g 1)), .int (am_z (g 2))],
  am_I 0 80 (fun k => am_z (g k)),
  am_O 0 [.ref 94, .int (am_z (g 1)), .int (am_z (g 2))],
  am_I 0 80 (fun k => am_z (g k)),
  am_O 0 [.ref 96, .int (am_z (g 1)), .int (am_z (g 2))],
  am_I 0 80 (fun k => am_z (g k)),
  am_O 0 [.ref 98, .int (am_z (g 1)), .int (am_z (g 2))],
  am_I 0 80 (fun k => am_z (g k)),
  am_O 0 [.ref 100, .int (am_z (g 1)), .int (am_z (g 2))],
  am_I 0 80 (fun k => am_z (g k)),
  am_O 0 [.ref 102, .int (am_z (g 1)), .int (am_z (g 2))],
  am_I 0 80 (fun k => am_z (g k)),
  am_O 0 [.ref 104, .int (am_z (g 1)), .int (am_z (g 2))],
  am_I 0 80 (fun k => am_z (g k)),
  am_O 0 [.ref 106, .int (am_z (g 1)), .int (am_z (g 2))],
  am_I 0 80 (fun k => am_z (g k)),
  am_O 0 [.ref 108, .int (am_z (g 1)), .int (am_z (g 2))],
  am_I 0 80 (fun k => am_z (g k)),
  am_O 0 [.ref 110, .int (am_z (g 1)), .int (am_z (g 2))],
  am_I 0 80 (fun k => am_z (g k)),
  am_O 0 [.ref 112, .int (am_z (g 1)), .int (am_z (g 2))],
  am_I 0 80 (fun k => am_z (g k)),
  am_O 0 [.ref 114, .int (am_z (g 1)), .int (am_z (g 2))],
  am_I 0 80 (fun k => am_z (g k)),
  am_O 0 [.ref 116, .int (am_z (g 1)), .int (am_z (g 2))],
  am_I 0 80 (fun k => am_z (g k)),
  am_O 0 [.ref 118, .int (am_z (g 1)), .int (am_z (g 2))],
  am_I 0 80 (fun k => am_z (g k)),
  am_O 0 [.ref 120, .int (am_z (g 1)), .int (am_z (g 2))],
  am_I 0 80 (fun k => am_z (g k)),
  am_O 0 [.ref 122, .int (am_z (g 1)), .int (am_z (g 2))],
  am_I 0 80 (fun k => am_z (g k)),
  am_O 0 [.ref 124, .int (am_z (g 1)), .int (am_z (g 2))],
  am_I 0 80 (fun k => am_z (g k)),
  am_O 0 [.ref 126, .int (am_z (g 1)), .int (am_z (g 2))],
  am_I 0 80 (fun k => am_z (g k)),
  am_O 0 [.ref 128, .int (am_z (g 1)), .int (am_z (g 2))],
  am_I 0 80 (fun k => am_z (g k)),
  am_O 0 [.ref 130, .int (am_z (g 1)), .int (am_z (g 2))],
  am_I 0 80 (fun k => am_z (g k)),
  am_O 0 [.ref 132, .int (am_z (g 1)), .int (am_z (g 2))],
  am_I 0 80 (fun k => am_z (g k)),
  am_O 0 [.ref 134, .int (am_z (g 1)), .int (am_z (g 2))],
  am_I 0 80 (fun k => am_z (g k)),
  am_O 0 [.ref 136, .int (am_z (g 1)), .int (am_z (g 2))],
  am_I 0 80 (fun k => am_z (g k)),
  am_O 0 [.ref 138, .int (am_z (g 1)), .int (am_z (g 2))],
  am_I 0 80 (fun k => am_z (g k)),
  am_O 0 [.ref 140, .int (am_z (g 1)), .int (am_z (g 2))],
  am_I 0 80 (fun k => am_z (g k)),
  am_O 0 [.ref 142, .int (am_z (g 1)), .int (am_z (g 2))],
  am_I 0 80 (fun k => am_z (g k)),
  am_O 0 [.ref 144, .int (am_z (g 1)), .int (am_z (g 2))],
  am_I 0 80 (fun k => am_z (g k)),
  am_O 0 [.ref 146, .int (am_z (g 1)), .int (am_z (g 2))],
  am_I 0 80 (fun k => am_z (g k)),
  am_O 0 [.ref 148, .int (am_z (g 1)), .int (am_z (g 2))],
  am_I 0 80 (fun k => am_z (g k)),
  am_O 0 [.ref 150, .int (am_z (g 1)), .int (am_z (g 2))],
  am_I 0 80 (fun k => am_z (g k)),
  am_O 0 [.ref 152, .int (am_z (g 1)), .int (am_z (g 2))],
  am_I 0 80 (fun k => am_z (g k)),
  am_O 0 [.ref 154, .int (am_z (g 1)), .int (am_z (g 2))],
  am_I 0 80 (fun k => am_z (g k)),
  am_O 0 [.ref 156, .int (am_z (g 1)), .int (am_z (g 2))],
  am_I 0 80 (fun k => am_z (g k)),
  am_O 0 [.ref 158, .int (am_z (g 1)), .int (am_z (g 2))],
  am_I 0 80 (fun k => am_z (g k)),
  am_O 0 [.ref 160, .int (am_z (g 1)), .int (am_z (g 2))],
  am_I 0 80 (fun k => am_z (g k)),
  am_O 0 [.ref 162, .int (am_z (g 1)), .int (am_z (g 2))],
  am_I 0 80 (fun k => am_z (g k)),
  am_O 0 [.ref 164, .int (am_z (g 1)), .int (am_z (g 2))],
  am_I 0 80 (fun k => am_z (g k)),
  am_O 0 [.ref 166, .int (am_z (g 1)), .int (am_z (g 2))],
  am_I 0 80 (fun k => am_z (g k)),
  am_O 0 [.ref 168, .int (am_z (g 1)), .int (am_z (g 2))],
  am_I 0 80 (fun k => am_z (g k)),
  am_O 0 [.ref 170, .int (am_z (g 1)), .int (am_z (g 2))],
  am_I 0 80 (fun k => am_z (g k)),
  am_O 0 [.ref 172, .int (am_z (g 1)), .int (am_z (g 2))],
  am_I 0 80 (fun k => am_z (g k)),
  am_O 0 [.ref 174, .int (am_z (g 1)), .int (am_z (g 2))],
  am_I 0 80 (fun k => am_z (g k)),
  am_O 0 [.ref 176, .int (am_z (g 1)), .int (am_z (g 2))],
  am_I 0 80 (fun k => am_z (g k)),
  am_O 0 [.ref 178, .int (am_z (g 1)), .int (am_z (g 2))],
  am_I 0 80 (fun k => am_z (g k)),
  am_O 10 [.ref 180, .int (am_z (g 1)), .ref 181, .int (am_z (g 3)), .int (am_z (g 4)), .ref 182, .int (am_z (g 6)), .int (am_z (g 7)), .ref 183, .ref 184, .ref 185, .ref 186, .int (am_z (g 12)), .ref 187, .ref 188, .ref 189, .ref 190, .int (am_z (g 17)), .int (am_z (g 18)), .ref 191, .ref 192, .ref 193, .ref 194, .ref 195, .int (am_z (g 24)), .ref 196, .ref 197, .int (am_z (g 27)), .ref 198, .int (am_z (g 29)), .ref 199, .ref 200, .ref 201, .int (am_z (g 33)), .int (am_z (g 34)), .ref 202, .ref 203, .ref 204, .ref 205, .ref 206, .int (am_z (g 40)), .ref 207, .ref 208, .int (am_z (g 43)), .ref 209],
  am_I 0 25 (fun k => am_z (g k)),
  am_I 1 100 (fun k => am_z (g k)),
  am_I 1 1200 (fun k => am_z (g k)),
  am_I 0 648 (fun k => am_z (g k)),
  am_I 0 8 (fun k => am_z (g k)),
  am_I 0 648 (fun k => am_z (g k)),
  am_I 0 8 (fun k => am_z (g k)),
  am_I 0 400 (fun k => am_z (g k)),
  am_I 0 400 (fun k => am_z (g k)),
  am_I 0 400 (fun k => am_z (g k)),
  am_I 0 400 (fun k => am_z (g k)),
  am_I 0 120 (fun k => am_z (g k)),
  am_I 0 120 (fun k => am_z (g k)),
  am_I 0 120 (fun k => am_z (g k)),
  am_I 0 120 (fun k => am_z (g k)),
  am_I 0 120 (fun k => am_z (g k)),
  am_I 0 120 (fun k => am_z (g k)),
  am_I 0 1800 (fun k => am_z (g k)),
  am_I 0 1800 (fun k => am_z (g k)),
  am_I 0 1800 (fun k => am_z (g k)),
  am_I 0 200 (fun k => am_z (g k)),
  am_I 0 200 (fun k => am_z (g k)),
  am_I 0 420 (fun k => am_z (g k)),
  am_I 0 420 (fun k => am_z (g k)),
  am_I 0 34020 (fun k => am_z (g k)),
  am_I 0 9720 (fun k => am_z (g k)),
  am_I 0 120 (fun k => am_z (g k)),
  am_I 0 1200 (fun k => am_z (g k)),
  am_I 0 1200 (fun k => am_z (g k)),
  am_I 0 100 (fun k => am_z (g k)),
  am_J 1 (fun k => if k = 0 then (am_z (g 0)).toInt64 else 0)]
def am_sh (h : Nat) (g : Nat → Int) : Option am_C := (am_shL g)[h]?
def am_mk (X : Nat × (Nat → Int32)) (S : Nat → Nat → Int) : am_M := fun h => match am_sh h (S h) with
  | some c => some c
  | none => am_M0 X.1 X.2 h
def am_rc : List Int := [3, 3, 6, 4, 3, 1, 100, 9, 3, 3, 6, 3, 1, 102, 100, 1, 103, 1, 7, 101, 3, 6, 1, 103, 100]
def am_S0 : Nat → Nat → Int := fun h k => if h = 2 ∧ k = 1 then -1 else if h = 52 ∧ k = 8 then -1 else if h = 179 ∧ k = 4 then -1 else if h = 180 then am_rc.getD k 0 else 0
theorem sh_0 {g : Nat → Int} : am_sh 0 g = some (am_O 9 [.ref 1, .int (am_z (g 1)), .ref 2, .ref 3, .ref 8, .ref 52, .ref 63, .ref 66, .ref 44, .ref 48, .ref 50]) := rfl
theorem sh_1 {g : Nat → Int} : am_sh 1 g = some (am_I 1 100 (fun k => am_z (g k))) := rfl
theorem sh_2 {g : Nat → Int} : am_sh 2 g = some (am_O 2 [.int (am_z (g 0)), .int (am_z (g 1))]) := rfl
theorem sh_3 {g : Nat → Int} : am_sh 3 g = some (am_O 4 [.ref 4, .ref 6]) := rfl
theorem sh_4 {g : Nat → Int} : am_sh 4 g = some (am_O 1 [.ref 5, .int (am_z (g 1)), .int (am_z (g 2))]) := rfl
theorem sh_5 {g : Nat → Int} : am_sh 5 g = some (am_I 0 202 (fun k => am_z (g k))) := rfl
theorem sh_6 {g : Nat → Int} : am_sh 6 g = some (am_O 1 [.ref 7, .int (am_z (g 1)), .int (am_z (g 2))]) := rfl
theorem sh_7 {g : Nat → Int} : am_sh 7 g = some (am_I 0 202 (fun k => am_z (g k))) := rfl
theorem sh_8 {g : Nat → Int} : am_sh 8 g = some (am_O 3 [.ref 9, .ref 10, .ref 11, .int (am_z (g 3))]) := rfl
theorem sh_9 {g : Nat → Int} : am_sh 9 g = some (am_R 4 8 (am_nmf 12 8)) := rfl
theorem sh_10 {g : Nat → Int} : am_sh 10 g = some (am_R 4 8 (am_nmf 14 8)) := rfl
theorem sh_11 {g : Nat → Int} : am_sh 11 g = some (am_I 2 8 (fun k => am_z (g k))) := rfl
theorem sh_12 {g : Nat → Int} : am_sh 12 g = some (am_O 0 [.ref 13, .int (am_z (g 1)), .int (am_z (g 2))]) := rfl
theorem sh_13 {g : Nat → Int} : am_sh 13 g = some (am_I 0 80 (fun k => am_z (g k))) := rfl
theorem sh_14 {g : Nat → Int} : am_sh 14 g = some (am_O 0 [.ref 15, .int (am_z (g 1)), .int (am_z (g 2))]) := rfl
theorem sh_15 {g : Nat → Int} : am_sh 15 g = some (am_I 0 80 (fun k => am_z (g k))) := rfl
theorem sh_16 {g : Nat → Int} : am_sh 16 g = some (am_O 0 [.ref 17, .int (am_z (g 1)), .int (am_z (g 2))]) := rfl
theorem sh_17 {g : Nat → Int} : am_sh 17 g = some (am_I 0 80 (fun k => am_z (g k))) := rfl
theorem sh_18 {g : Nat → Int} : am_sh 18 g = some (am_O 0 [.ref 19, .int (am_z (g 1)), .int (am_z (g 2))]) := rfl
theorem sh_19 {g : Nat → Int} : am_sh 19 g = some (am_I 0 80 (fun k => am_z (g k))) := rfl
theorem sh_20 {g : Nat → Int} : am_sh 20 g = some (am_O 0 [.ref 21, .int (am_z (g 1)), .int (am_z (g 2))]) := rfl
theorem sh_21 {g : Nat → Int} : am_sh 21 g = some (am_I 0 80 (fun k => am_z (g k))) := rfl
theorem sh_22 {g : Nat → Int} : am_sh 22 g = some (am_O 0 [.ref 23, .int (am_z (g 1)), .int (am_z (g 2))]) := rfl
theorem sh_23 {g : Nat → Int} : am_sh 23 g = some (am_I 0 80 (fun k => am_z (g k))) := rfl
theorem sh_24 {g : Nat → Int} : am_sh 24 g = some (am_O 0 [.ref 25, .int (am_z (g 1)), .int (am_z (g 2))]) := rfl
theorem sh_25 {g : Nat → Int} : am_sh 25 g = some (am_I 0 80 (fun k => am_z (g k))) := rfl
theorem sh_26 {g : Nat → Int} : am_sh 26 g = some (am_O 0 [.ref 27, .int (am_z (g 1)), .int (am_z (g 2))]) := rfl
theorem sh_27 {g : Nat → Int} : am_sh 27 g = some (am_I 0 80 (fun k => am_z (g k))) := rfl
theorem sh_28 {g : Nat → Int} : am_sh 28 g = some (am_O 0 [.ref 29, .int (am_z (g 1)), .int (am_z (g 2))]) := rfl
theorem sh_29 {g : Nat → Int} : am_sh 29 g = some (am_I 0 80 (fun k => am_z (g k))) := rfl
theorem sh_30 {g : Nat → Int} : am_sh 30 g = some (am_O 0 [.ref 31, .int (am_z (g 1)), .int (am_z (g 2))]) := rfl
theorem sh_31 {g : Nat → Int} : am_sh 31 g = some (am_I 0 80 (fun k => am_z (g k))) := rfl
theorem sh_32 {g : Nat → Int} : am_sh 32 g = some (am_O 0 [.ref 33, .int (am_z (g 1)), .int (am_z (g 2))]) := rfl
theorem sh_33 {g : Nat → Int} : am_sh 33 g = some (am_I 0 80 (fun k => am_z (g k))) := rfl
theorem sh_34 {g : Nat → Int} : am_sh 34 g = some (am_O 0 [.ref 35, .int (am_z (g 1)), .int (am_z (g 2))]) := rfl
theorem sh_35 {g : Nat → Int} : am_sh 35 g = some (am_I 0 80 (fun k => am_z (g k))) := rfl
theorem sh_36 {g : Nat → Int} : am_sh 36 g = some (am_O 0 [.ref 37, .int (am_z (g 1)), .int (am_z (g 2))]) := rfl
theorem sh_37 {g : Nat → Int} : am_sh 37 g = some (am_I 0 80 (fun k => am_z (g k))) := rfl
theorem sh_38 {g : Nat → Int} : am_sh 38 g = some (am_O 0 [.ref 39, .int (am_z (g 1)), .int (am_z (g 2))]) := rfl
theorem sh_39 {g : Nat → Int} : am_sh 39 g = some (am_I 0 80 (fun k => am_z (g k))) := rfl
theorem sh_40 {g : Nat → Int} : am_sh 40 g = some (am_O 0 [.ref 41, .int (am_z (g 1)), .int (am_z (g 2))]) := rfl
theorem sh_41 {g : Nat → Int} : am_sh 41 g = some (am_I 0 80 (fun k => am_z (g k))) := rfl
theorem sh_42 {g : Nat → Int} : am_sh 42 g = some (am_O 0 [.ref 43, .int (am_z (g 1)), .int (am_z (g 2))]) := rfl
theorem sh_43 {g : Nat → Int} : am_sh 43 g = some (am_I 0 80 (fun k => am_z (g k))) := rfl
theorem sh_44 {g : Nat → Int} : am_sh 44 g = some (am_O 8 [.ref 45, .int (am_z (g 1)), .int (am_z (g 2)), .ref 46]) := rfl
theorem sh_45 {g : Nat → Int} : am_sh 45 g = some (am_I 1 480 (fun k => am_z (g k))) := rfl
theorem sh_46 {g : Nat → Int} : am_sh 46 g = some (am_O 1 [.ref 47, .int (am_z (g 1)), .int (am_z (g 2))]) := rfl
theorem sh_47 {g : Nat → Int} : am_sh 47 g = some (am_I 0 202 (fun k => am_z (g k))) := rfl
theorem sh_48 {g : Nat → Int} : am_sh 48 g = some (am_O 0 [.ref 49, .int (am_z (g 1)), .int (am_z (g 2))]) := rfl
theorem sh_49 {g : Nat → Int} : am_sh 49 g = some (am_I 0 80 (fun k => am_z (g k))) := rfl
theorem sh_50 {g : Nat → Int} : am_sh 50 g = some (am_O 0 [.ref 51, .int (am_z (g 1)), .int (am_z (g 2))]) := rfl
theorem sh_51 {g : Nat → Int} : am_sh 51 g = some (am_I 0 80 (fun k => am_z (g k))) := rfl
theorem sh_52 {g : Nat → Int} : am_sh 52 g = some (am_O 5 [.ref 8, .ref 2, .ref 53, .ref 55, .ref 56, .int (am_z (g 5)), .int (am_z (g 6)), .int (am_z (g 7)), .int (am_z (g 8)), .int (am_z (g 9)), .ref 57, .ref 58, .ref 59, .ref 60, .ref 61, .ref 62, .int (am_z (g 16))]) := rfl
theorem sh_53 {g : Nat → Int} : am_sh 53 g = some (am_O 0 [.ref 54, .int (am_z (g 1)), .int (am_z (g 2))]) := rfl
theorem sh_54 {g : Nat → Int} : am_sh 54 g = some (am_I 0 200 (fun k => am_z (g k))) := rfl
theorem sh_55 {g : Nat → Int} : am_sh 55 g = some (am_I 0 200 (fun k => am_z (g k))) := rfl
theorem sh_56 {g : Nat → Int} : am_sh 56 g = some (am_I 1 100 (fun k => am_z (g k))) := rfl
theorem sh_57 {g : Nat → Int} : am_sh 57 g = some (am_I 1 100 (fun k => am_z (g k))) := rfl
theorem sh_58 {g : Nat → Int} : am_sh 58 g = some (am_I 1 100 (fun k => am_z (g k))) := rfl
theorem sh_59 {g : Nat → Int} : am_sh 59 g = some (am_I 0 100 (fun k => am_z (g k))) := rfl
theorem sh_60 {g : Nat → Int} : am_sh 60 g = some (am_I 0 100 (fun k => am_z (g k))) := rfl
theorem sh_61 {g : Nat → Int} : am_sh 61 g = some (am_I 0 100 (fun k => am_z (g k))) := rfl
theorem sh_62 {g : Nat → Int} : am_sh 62 g = some (am_I 0 100 (fun k => am_z (g k))) := rfl
theorem sh_63 {g : Nat → Int} : am_sh 63 g = some (am_O 6 [.ref 8, .ref 3, .ref 64]) := rfl
theorem sh_64 {g : Nat → Int} : am_sh 64 g = some (am_O 0 [.ref 65, .int (am_z (g 1)), .int (am_z (g 2))]) := rfl
theorem sh_65 {g : Nat → Int} : am_sh 65 g = some (am_I 0 80 (fun k => am_z (g k))) := rfl
theorem sh_66 {g : Nat → Int} : am_sh 66 g = some (am_O 7 [.ref 52, .ref 53, .ref 8, .ref 63, .ref 3, .ref 2, .ref 67, .ref 68, .ref 70, .int (am_z (g 9))]) := rfl
theorem sh_67 {g : Nat → Int} : am_sh 67 g = some (am_R 4 54 (am_tyf 54)) := rfl
theorem sh_68 {g : Nat → Int} : am_sh 68 g = some (am_O 0 [.ref 69, .int (am_z (g 1)), .int (am_z (g 2))]) := rfl
theorem sh_69 {g : Nat → Int} : am_sh 69 g = some (am_I 0 80 (fun k => am_z (g k))) := rfl
theorem sh_70 {g : Nat → Int} : am_sh 70 g = some (am_I 0 100 (fun k => am_z (g k))) := rfl
theorem sh_71 {g : Nat → Int} : am_sh 71 g = some (am_O 0 [.ref 72, .int (am_z (g 1)), .int (am_z (g 2))]) := rfl
theorem sh_72 {g : Nat → Int} : am_sh 72 g = some (am_I 0 80 (fun k => am_z (g k))) := rfl
theorem sh_73 {g : Nat → Int} : am_sh 73 g = some (am_O 0 [.ref 74, .int (am_z (g 1)), .int (am_z (g 2))]) := rfl
theorem sh_74 {g : Nat → Int} : am_sh 74 g = some (am_I 0 80 (fun k => am_z (g k))) := rfl
theorem sh_75 {g : Nat → Int} : am_sh 75 g = some (am_O 0 [.ref 76, .int (am_z (g 1)), .int (am_z (g 2))]) := rfl
theorem sh_76 {g : Nat → Int} : am_sh 76 g = some (am_I 0 80 (fun k => am_z (g k))) := rfl
theorem sh_77 {g : Nat → Int} : am_sh 77 g = some (am_O 0 [.ref 78, .int (am_z (g 1)), .int (am_z (g 2))]) := rfl
theorem sh_78 {g : Nat → Int} : am_sh 78 g = some (am_I 0 80 (fun k => am_z (g k))) := rfl
theorem sh_79 {g : Nat → Int} : am_sh 79 g = some (am_O 0 [.ref 80, .int (am_z (g 1)), .int (am_z (g 2))]) := rfl
theorem sh_80 {g : Nat → Int} : am_sh 80 g = some (am_I 0 80 (fun k => am_z (g k))) := rfl
theorem sh_81 {g : Nat → Int} : am_sh 81 g = some (am_O 0 [.ref 82, .int (am_z (g 1)), .int (am_z (g 2))]) := rfl
theorem sh_82 {g : Nat → Int} : am_sh 82 g = some (am_I 0 80 (fun k => am_z (g k))) := rfl
theorem sh_83 {g : Nat → Int} : am_sh 83 g = some (am_O 0 [.ref 84, .int (am_z (g 1)), .int (am_z (g 2))]) := rfl
theorem sh_84 {g : Nat → Int} : am_sh 84 g = some (am_I 0 80 (fun k => am_z (g k))) := rfl
theorem sh_85 {g : Nat → Int} : am_sh 85 g = some (am_O 0 [.ref 86, .int (am_z (g 1)), .int (am_z (g 2))]) := rfl
theorem sh_86 {g : Nat → Int} : am_sh 86 g = some (am_I 0 80 (fun k => am_z (g k))) := rfl
theorem sh_87 {g : Nat → Int} : am_sh 87 g = some (am_O 0 [.ref 88, .int (am_z (g 1)), .int (am_z (g 2))]) := rfl
theorem sh_88 {g : Nat → Int} : am_sh 88 g = some (am_I 0 80 (fun k => am_z (g k))) := rfl
theorem sh_89 {g : Nat → Int} : am_sh 89 g = some (am_O 0 [.ref 90, .int (am_z (g 1)), .int (am_z (g 2))]) := rfl
theorem sh_90 {g : Nat → Int} : am_sh 90 g = some (am_I 0 80 (fun k => am_z (g k))) := rfl
theorem sh_91 {g : Nat → Int} : am_sh 91 g = some (am_O 0 [.ref 92, .int (am_z (g 1)), .int (am_z (g 2))]) := rfl
theorem sh_92 {g : Nat → Int} : am_sh 92 g = some (am_I 0 80 (fun k => am_z (g k))) := rfl
theorem sh_93 {g : Nat → Int} : am_sh 93 g = some (am_O 0 [.ref 94, .int (am_z (g 1)), .int (am_z (g 2))]) := rfl
theorem sh_94 {g : Nat → Int} : am_sh 94 g = some (am_I 0 80 (fun k => am_z (g k))) := rfl
theorem sh_95 {g : Nat → Int} : am_sh 95 g = some (am_O 0 [.ref 96, .int (am_z (g 1)), .int (am_z (g 2))]) := rfl
theorem sh_96 {g : Nat → Int} : am_sh 96 g = some (am_I 0 80 (fun k => am_z (g k))) := rfl
theorem sh_97 {g : Nat → Int} : am_sh 97 g = some (am_O 0 [.ref 98, .int (am_z (g 1)), .int (am_z (g 2))]) := rfl
theorem sh_98 {g : Nat → Int} : am_sh 98 g = some (am_I 0 80 (fun k => am_z (g k))) := rfl
theorem sh_99 {g : Nat → Int} : am_sh 99 g = some (am_O 0 [.ref 100, .int (am_z (g 1)), .int (am_z (g 2))]) := rfl
theorem sh_100 {g : Nat → Int} : am_sh 100 g = some (am_I 0 80 (fun k => am_z (g k))) := rfl
theorem sh_101 {g : Nat → Int} : am_sh 101 g = some (am_O 0 [.ref 102, .int (am_z (g 1)), .int (am_z (g 2))]) := rfl
theorem sh_102 {g : Nat → Int} : am_sh 102 g = some (am_I 0 80 (fun k => am_z (g k))) := rfl
theorem sh_103 {g : Nat → Int} : am_sh 103 g = some (am_O 0 [.ref 104, .int (am_z (g 1)), .int (am_z (g 2))]) := rfl
theorem sh_104 {g : Nat → Int} : am_sh 104 g = some (am_I 0 80 (fun k => am_z (g k))) := rfl
theorem sh_105 {g : Nat → Int} : am_sh 105 g = some (am_O 0 [.ref 106, .int (am_z (g 1)), .int (am_z (g 2))]) := rfl
theorem sh_106 {g : Nat → Int} : am_sh 106 g = some (am_I 0 80 (fun k => am_z (g k))) := rfl
theorem sh_107 {g : Nat → Int} : am_sh 107 g = some (am_O 0 [.ref 108, .int (am_z (g 1)), .int (am_z (g 2))]) := rfl
theorem sh_108 {g : Nat → Int} : am_sh 108 g = some (am_I 0 80 (fun k => am_z (g k))) := rfl
theorem sh_109 {g : Nat → Int} : am_sh 109 g = some (am_O 0 [.ref 110, .int (am_z (g 1)), .int (am_z (g 2))]) := rfl
theorem sh_110 {g : Nat → Int} : am_sh 110 g = some (am_I 0 80 (fun k => am_z (g k))) := rfl
theorem sh_111 {g : Nat → Int} : am_sh 111 g = some (am_O 0 [.ref 112, .int (am_z (g 1)), .int (am_z (g 2))]) := rfl
theorem sh_112 {g : Nat → Int} : am_sh 112 g = some (am_I 0 80 (fun k => am_z (g k))) := rfl
theorem sh_113 {g : Nat → Int} : am_sh 113 g = some (am_O 0 [.ref 114, .int (am_z (g 1)), .int (am_z (g 2))]) := rfl
theorem sh_114 {g : Nat → Int} : am_sh 114 g = some (am_I 0 80 (fun k => am_z (g k))) := rfl
theorem sh_115 {g : Nat → Int} : am_sh 115 g = some (am_O 0 [.ref 116, .int (am_z (g 1)), .int (am_z (g 2))]) := rfl
theorem sh_116 {g : Nat → Int} : am_sh 116 g = some (am_I 0 80 (fun k => am_z (g k))) := rfl
theorem sh_117 {g : Nat → Int} : am_sh 117 g = some (am_O 0 [.ref 118, .int (am_z (g 1)), .int (am_z (g 2))]) := rfl
theorem sh_118 {g : Nat → Int} : am_sh 118 g = some (am_I 0 80 (fun k => am_z (g k))) := rfl
theorem sh_119 {g : Nat → Int} : am_sh 119 g = some (am_O 0 [.ref 120, .int (am_z (g 1)), .int (am_z (g 2))]) := rfl
theorem sh_120 {g : Nat → Int} : am_sh 120 g = some (am_I 0 80 (fun k => am_z (g k))) := rfl
theorem sh_121 {g : Nat → Int} : am_sh 121 g = some (am_O 0 [.ref 122, .int (am_z (g 1)), .int (am_z (g 2))]) := rfl
theorem sh_122 {g : Nat → Int} : am_sh 122 g = some (am_I 0 80 (fun k => am_z (g k))) := rfl
theorem sh_123 {g : Nat → Int} : am_sh 123 g = some (am_O 0 [.ref 124, .int (am_z (g 1)), .int (am_z (g 2))]) := rfl
theorem sh_124 {g : Nat → Int} : am_sh 124 g = some (am_I 0 80 (fun k => am_z (g k))) := rfl
theorem sh_125 {g : Nat → Int} : am_sh 125 g = some (am_O 0 [.ref 126, .int (am_z (g 1)), .int (am_z (g 2))]) := rfl
theorem sh_126 {g : Nat → Int} : am_sh 126 g = some (am_I 0 80 (fun k => am_z (g k))) := rfl
theorem sh_127 {g : Nat → Int} : am_sh 127 g = some (am_O 0 [.ref 128, .int (am_z (g 1)), .int (am_z (g 2))]) := rfl
theorem sh_128 {g : Nat → Int} : am_sh 128 g = some (am_I 0 80 (fun k => am_z (g k))) := rfl
theorem sh_129 {g : Nat → Int} : am_sh 129 g = some (am_O 0 [.ref 130, .int (am_z (g 1)), .int (am_z (g 2))]) := rfl
theorem sh_130 {g : Nat → Int} : am_sh 130 g = some (am_I 0 80 (fun k => am_z (g k))) := rfl
theorem sh_131 {g : Nat → Int} : am_sh 131 g = some (am_O 0 [.ref 132, .int (am_z (g 1)), .int (am_z (g 2))]) := rfl
theorem sh_132 {g : Nat → Int} : am_sh 132 g = some (am_I 0 80 (fun k => am_z (g k))) := rfl
theorem sh_133 {g : Nat → Int} : am_sh 133 g = some (am_O 0 [.ref 134, .int (am_z (g 1)), .int (am_z (g 2))]) := rfl
theorem sh_134 {g : Nat → Int} : am_sh 134 g = some (am_I 0 80 (fun k => am_z (g k))) := rfl
theorem sh_135 {g : Nat → Int} : am_sh 135 g = some (am_O 0 [.ref 136, .int (am_z (g 1)), .int (am_z (g 2))]) := rfl
theorem sh_136 {g : Nat → Int} : am_sh 136 g = some (am_I 0 80 (fun k => am_z (g k))) := rfl
theorem sh_137 {g : Nat → Int} : am_sh 137 g = some (am_O 0 [.ref 138, .int (am_z (g 1)), .int (am_z (g 2))]) := rfl
theorem sh_138 {g : Nat → Int} : am_sh 138 g = some (am_I 0 80 (fun k => am_z (g k))) := rfl
theorem sh_139 {g : Nat → Int} : am_sh 139 g = some (am_O 0 [.ref 140, .int (am_z (g 1)), .int (am_z (g 2))]) := rfl
theorem sh_140 {g : Nat → Int} : am_sh 140 g = some (am_I 0 80 (fun k => am_z (g k))) := rfl
theorem sh_141 {g : Nat → Int} : am_sh 141 g = some (am_O 0 [.ref 142, .int (am_z (g 1)), .int (am_z (g 2))]) := rfl
theorem sh_142 {g : Nat → Int} : am_sh 142 g = some (am_I 0 80 (fun k => am_z (g k))) := rfl
theorem sh_143 {g : Nat → Int} : am_sh 143 g = some (am_O 0 [.ref 144, .int (am_z (g 1)), .int (am_z (g 2))]) := rfl
theorem sh_144 {g : Nat → Int} : am_sh 144 g = some (am_I 0 80 (fun k => am_z (g k))) := rfl
theorem sh_145 {g : Nat → Int} : am_sh 145 g = some (am_O 0 [.ref 146, .int (am_z (g 1)), .int (am_z (g 2))]) := rfl
theorem sh_146 {g : Nat → Int} : am_sh 146 g = some (am_I 0 80 (fun k => am_z (g k))) := rfl
theorem sh_147 {g : Nat → Int} : am_sh 147 g = some (am_O 0 [.ref 148, .int (am_z (g 1)), .int (am_z (g 2))]) := rfl
theorem sh_148 {g : Nat → Int} : am_sh 148 g = some (am_I 0 80 (fun k => am_z (g k))) := rfl
theorem sh_149 {g : Nat → Int} : am_sh 149 g = some (am_O 0 [.ref 150, .int (am_z (g 1)), .int (am_z (g 2))]) := rfl
theorem sh_150 {g : Nat → Int} : am_sh 150 g = some (am_I 0 80 (fun k => am_z (g k))) := rfl
theorem sh_151 {g : Nat → Int} : am_sh 151 g = some (am_O 0 [.ref 152, .int (am_z (g 1)), .int (am_z (g 2))]) := rfl
theorem sh_152 {g : Nat → Int} : am_sh 152 g = some (am_I 0 80 (fun k => am_z (g k))) := rfl
theorem sh_153 {g : Nat → Int} : am_sh 153 g = some (am_O 0 [.ref 154, .int (am_z (g 1)), .int (am_z (g 2))]) := rfl
theorem sh_154 {g : Nat → Int} : am_sh 154 g = some (am_I 0 80 (fun k => am_z (g k))) := rfl
theorem sh_155 {g : Nat → Int} : am_sh 155 g = some (am_O 0 [.ref 156, .int (am_z (g 1)), .int (am_z (g 2))]) := rfl
theorem sh_156 {g : Nat → Int} : am_sh 156 g = some (am_I 0 80 (fun k => am_z (g k))) := rfl
theorem sh_157 {g : Nat → Int} : am_sh 157 g = some (am_O 0 [.ref 158, .int (am_z (g 1)), .int (am_z (g 2))]) := rfl
theorem sh_158 {g : Nat → Int} : am_sh 158 g = some (am_I 0 80 (fun k => am_z (g k))) := rfl
theorem sh_159 {g : Nat → Int} : am_sh 159 g = some (am_O 0 [.ref 160, .int (am_z (g 1)), .int (am_z (g 2))]) := rfl
theorem sh_160 {g : Nat → Int} : am_sh 160 g = some (am_I 0 80 (fun k => am_z (g k))) := rfl
theorem sh_161 {g : Nat → Int} : am_sh 161 g = some (am_O 0 [.ref 162, .int (am_z (g 1)), .int (am_z (g 2))]) := rfl
theorem sh_162 {g : Nat → Int} : am_sh 162 g = some (am_I 0 80 (fun k => am_z (g k))) := rfl
theorem sh_163 {g : Nat → Int} : am_sh 163 g = some (am_O 0 [.ref 164, .int (am_z (g 1)), .int (am_z (g 2))]) := rfl
theorem sh_164 {g : Nat → Int} : am_sh 164 g = some (am_I 0 80 (fun k => am_z (g k))) := rfl
theorem sh_165 {g : Nat → Int} : am_sh 165 g = some (am_O 0 [.ref 166, .int (am_z (g 1)), .int (am_z (g 2))]) := rfl
theorem sh_166 {g : Nat → Int} : am_sh 166 g = some (am_I 0 80 (fun k => am_z (g k))) := rfl
theorem sh_167 {g : Nat → Int} : am_sh 167 g = some (am_O 0 [.ref 168, .int (am_z (g 1)), .int (am_z (g 2))]) := rfl
theorem sh_168 {g : Nat → Int} : am_sh 168 g = some (am_I 0 80 (fun k => am_z (g k))) := rfl
theorem sh_169 {g : Nat → Int} : am_sh 169 g = some (am_O 0 [.ref 170, .int (am_z (g 1)), .int (am_z (g 2))]) := rfl
theorem sh_170 {g : Nat → Int} : am_sh 170 g = some (am_I 0 80 (fun k => am_z (g k))) := rfl
theorem sh_171 {g : Nat → Int} : am_sh 171 g = some (am_O 0 [.ref 172, .int (am_z (g 1)), .int (am_z (g 2))]) := rfl
theorem sh_172 {g : Nat → Int} : am_sh 172 g = some (am_I 0 80 (fun k => am_z (g k))) := rfl
theorem sh_173 {g : Nat → Int} : am_sh 173 g = some (am_O 0 [.ref 174, .int (am_z (g 1)), .int (am_z (g 2))]) := rfl
theorem sh_174 {g : Nat → Int} : am_sh 174 g = some (am_I 0 80 (fun k => am_z (g k))) := rfl
theorem sh_175 {g : Nat → Int} : am_sh 175 g = some (am_O 0 [.ref 176, .int (am_z (g 1)), .int (am_z (g 2))]) := rfl
theorem sh_176 {g : Nat → Int} : am_sh 176 g = some (am_I 0 80 (fun k => am_z (g k))) := rfl
theorem sh_177 {g : Nat → Int} : am_sh 177 g = some (am_O 0 [.ref 178, .int (am_z (g 1)), .int (am_z (g 2))]) := rfl
theorem sh_178 {g : Nat → Int} : am_sh 178 g = some (am_I 0 80 (fun k => am_z (g k))) := rfl
theorem sh_179 {g : Nat → Int} : am_sh 179 g = some (am_O 10 [.ref 180, .int (am_z (g 1)), .ref 181, .int (am_z (g 3)), .int (am_z (g 4)), .ref 182, .int (am_z (g 6)), .int (am_z (g 7)), .ref 183, .ref 184, .ref 185, .ref 186, .int (am_z (g 12)), .ref 187, .ref 188, .ref 189, .ref 190, .int (am_z (g 17)), .int (am_z (g 18)), .ref 191, .ref 192, .ref 193, .ref 194, .ref 195, .int (am_z (g 24)), .ref 196, .ref 197, .int (am_z (g 27)), .ref 198, .int (am_z (g 29)), .ref 199, .ref 200, .ref 201, .int (am_z (g 33)), .int (am_z (g 34)), .ref 202, .ref 203, .ref 204, .ref 205, .ref 206, .int (am_z (g 40)), .ref 207, .ref 208, .int (am_z (g 43)), .ref 209]) := rfl
theorem sh_180 {g : Nat → Int} : am_sh 180 g = some (am_I 0 25 (fun k => am_z (g k))) := rfl
theorem sh_181 {g : Nat → Int} : am_sh 181 g = some (am_I 1 100 (fun k => am_z (g k))) := rfl
theorem sh_182 {g : Nat → Int} : am_sh 182 g = some (am_I 1 1200 (fun k => am_z (g k))) := rfl
theorem sh_183 {g : Nat → Int} : am_sh 183 g = some (am_I 0 648 (fun k => am_z (g k))) := rfl
theorem sh_184 {g : Nat → Int} : am_sh 184 g = some (am_I 0 8 (fun k => am_z (g k))) := rfl
theorem sh_185 {g : Nat → Int} : am_sh 185 g = some (am_I 0 648 (fun k => am_z (g k))) := rfl
theorem sh_186 {g : Nat → Int} : am_sh 186 g = some (am_I 0 8 (fun k => am_z (g k))) := rfl
theorem sh_187 {g : Nat → Int} : am_sh 187 g = some (am_I 0 400 (fun k => am_z (g k))) := rfl
theorem sh_188 {g : Nat → Int} : am_sh 188 g = some (am_I 0 400 (fun k => am_z (g k))) := rfl
theorem sh_189 {g : Nat → Int} : am_sh 189 g = some (am_I 0 400 (fun k => am_z (g k))) := rfl
theorem sh_190 {g : Nat → Int} : am_sh 190 g = some (am_I 0 400 (fun k => am_z (g k))) := rfl
theorem sh_191 {g : Nat → Int} : am_sh 191 g = some (am_I 0 120 (fun k => am_z (g k))) := rfl
theorem sh_192 {g : Nat → Int} : am_sh 192 g = some (am_I 0 120 (fun k => am_z (g k))) := rfl
theorem sh_193 {g : Nat → Int} : am_sh 193 g = some (am_I 0 120 (fun k => am_z (g k))) := rfl
theorem sh_194 {g : Nat → Int} : am_sh 194 g = some (am_I 0 120 (fun k => am_z (g k))) := rfl
theorem sh_195 {g : Nat → Int} : am_sh 195 g = some (am_I 0 120 (fun k => am_z (g k))) := rfl
theorem sh_196 {g : Nat → Int} : am_sh 196 g = some (am_I 0 120 (fun k => am_z (g k))) := rfl
theorem sh_197 {g : Nat → Int} : am_sh 197 g = some (am_I 0 1800 (fun k => am_z (g k))) := rfl
theorem sh_198 {g : Nat → Int} : am_sh 198 g = some (am_I 0 1800 (fun k => am_z (g k))) := rfl
theorem sh_199 {g : Nat → Int} : am_sh 199 g = some (am_I 0 1800 (fun k => am_z (g k))) := rfl
theorem sh_200 {g : Nat → Int} : am_sh 200 g = some (am_I 0 200 (fun k => am_z (g k))) := rfl
theorem sh_201 {g : Nat → Int} : am_sh 201 g = some (am_I 0 200 (fun k => am_z (g k))) := rfl
theorem sh_202 {g : Nat → Int} : am_sh 202 g = some (am_I 0 420 (fun k => am_z (g k))) := rfl
theorem sh_203 {g : Nat → Int} : am_sh 203 g = some (am_I 0 420 (fun k => am_z (g k))) := rfl
theorem sh_204 {g : Nat → Int} : am_sh 204 g = some (am_I 0 34020 (fun k => am_z (g k))) := rfl
theorem sh_205 {g : Nat → Int} : am_sh 205 g = some (am_I 0 9720 (fun k => am_z (g k))) := rfl
theorem sh_206 {g : Nat → Int} : am_sh 206 g = some (am_I 0 120 (fun k => am_z (g k))) := rfl
theorem sh_207 {g : Nat → Int} : am_sh 207 g = some (am_I 0 1200 (fun k => am_z (g k))) := rfl
theorem sh_208 {g : Nat → Int} : am_sh 208 g = some (am_I 0 1200 (fun k => am_z (g k))) := rfl
theorem sh_209 {g : Nat → Int} : am_sh 209 g = some (am_I 0 100 (fun k => am_z (g k))) := rfl
theorem sh_210 {g : Nat → Int} : am_sh 210 g = some (am_J 1 (fun k => if k = 0 then (am_z (g 0)).toInt64 else 0)) := rfl
