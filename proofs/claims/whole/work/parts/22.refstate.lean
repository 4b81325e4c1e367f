/-! THE REFERENCE'S STATE, printed by gen_ref.py: its arrays and numbers, and the cells m .. m + 8 that hold them -/
abbrev Rst : Type := (Nat → Int64) × (Nat → Int64) × (Nat → Int64) × (Nat → Int64) × (Nat → Int64) × (Nat → Int32) × (Nat → Int32) × (Nat → Int32) × Int32 × Int32 × Int32 × Int32 × Int32 × Int32 × Int32
def rS (r : Rst) : (Nat → Int64) := r.1
def rSv (r : Rst) : (Nat → Int64) := r.2.1
def rPa (r : Rst) : (Nat → Int64) := r.2.2.1
def rKp (r : Rst) : (Nat → Int64) := r.2.2.2.1
def rBf (r : Rst) : (Nat → Int64) := r.2.2.2.2.1
def rWr (r : Rst) : (Nat → Int32) := r.2.2.2.2.2.1
def rTx (r : Rst) : (Nat → Int32) := r.2.2.2.2.2.2.1
def rNu (r : Rst) : (Nat → Int32) := r.2.2.2.2.2.2.2.1
def rIs (r : Rst) : Int32 := r.2.2.2.2.2.2.2.2.1
def rPm (r : Rst) : Int32 := r.2.2.2.2.2.2.2.2.2.1
def rQ (r : Rst) : Int32 := r.2.2.2.2.2.2.2.2.2.2.1
def rWm (r : Rst) : Int32 := r.2.2.2.2.2.2.2.2.2.2.2.1
def rLn (r : Rst) : Int32 := r.2.2.2.2.2.2.2.2.2.2.2.2.1
def rPl (r : Rst) : Int32 := r.2.2.2.2.2.2.2.2.2.2.2.2.2.1
def rW (r : Rst) : Int32 := r.2.2.2.2.2.2.2.2.2.2.2.2.2.2
def wS (r : Rst) (v : (Nat → Int64)) : Rst := (v, r.2.1, r.2.2.1, r.2.2.2.1, r.2.2.2.2.1, r.2.2.2.2.2.1, r.2.2.2.2.2.2.1, r.2.2.2.2.2.2.2.1, r.2.2.2.2.2.2.2.2.1, r.2.2.2.2.2.2.2.2.2.1, r.2.2.2.2.2.2.2.2.2.2.1, r.2.2.2.2.2.2.2.2.2.2.2.1, r.2.2.2.2.2.2.2.2.2.2.2.2.1, r.2.2.2.2.2.2.2.2.2.2.2.2.2.1, r.2.2.2.2.2.2.2.2.2.2.2.2.2.2)
def wSv (r : Rst) (v : (Nat → Int64)) : Rst := (r.1, v, r.2.2.1, r.2.2.2.1, r.2.2.2.2.1, r.2.2.2.2.2.1, r.2.2.2.2.2.2.1, r.2.2.2.2.2.2.2.1, r.2.2.2.2.2.2.2.2.1, r.2.2.2.2.2.2.2.2.2.1, r.2.2.2.2.2.2.2.2.2.2.1, r.2.2.2.2.2.2.2.2.2.2.2.1, r.2.2.2.2.2.2.2.2.2.2.2.2.1, r.2.2.2.2.2.2.2.2.2.2.2.2.2.1, r.2.2.2.2.2.2.2.2.2.2.2.2.2.2)
def wPa (r : Rst) (v : (Nat → Int64)) : Rst := (r.1, r.2.1, v, r.2.2.2.1, r.2.2.2.2.1, r.2.2.2.2.2.1, r.2.2.2.2.2.2.1, r.2.2.2.2.2.2.2.1, r.2.2.2.2.2.2.2.2.1, r.2.2.2.2.2.2.2.2.2.1, r.2.2.2.2.2.2.2.2.2.2.1, r.2.2.2.2.2.2.2.2.2.2.2.1, r.2.2.2.2.2.2.2.2.2.2.2.2.1, r.2.2.2.2.2.2.2.2.2.2.2.2.2.1, r.2.2.2.2.2.2.2.2.2.2.2.2.2.2)
def wKp (r : Rst) (v : (Nat → Int64)) : Rst := (r.1, r.2.1, r.2.2.1, v, r.2.2.2.2.1, r.2.2.2.2.2.1, r.2.2.2.2.2.2.1, r.2.2.2.2.2.2.2.1, r.2.2.2.2.2.2.2.2.1, r.2.2.2.2.2.2.2.2.2.1, r.2.2.2.2.2.2.2.2.2.2.1, r.2.2.2.2.2.2.2.2.2.2.2.1, r.2.2.2.2.2.2.2.2.2.2.2.2.1, r.2.2.2.2.2.2.2.2.2.2.2.2.2.1, r.2.2.2.2.2.2.2.2.2.2.2.2.2.2)
def wBf (r : Rst) (v : (Nat → Int64)) : Rst := (r.1, r.2.1, r.2.2.1, r.2.2.2.1, v, r.2.2.2.2.2.1, r.2.2.2.2.2.2.1, r.2.2.2.2.2.2.2.1, r.2.2.2.2.2.2.2.2.1, r.2.2.2.2.2.2.2.2.2.1, r.2.2.2.2.2.2.2.2.2.2.1, r.2.2.2.2.2.2.2.2.2.2.2.1, r.2.2.2.2.2.2.2.2.2.2.2.2.1, r.2.2.2.2.2.2.2.2.2.2.2.2.2.1, r.2.2.2.2.2.2.2.2.2.2.2.2.2.2)
def wWr (r : Rst) (v : (Nat → Int32)) : Rst := (r.1, r.2.1, r.2.2.1, r.2.2.2.1, r.2.2.2.2.1, v, r.2.2.2.2.2.2.1, r.2.2.2.2.2.2.2.1, r.2.2.2.2.2.2.2.2.1, r.2.2.2.2.2.2.2.2.2.1, r.2.2.2.2.2.2.2.2.2.2.1, r.2.2.2.2.2.2.2.2.2.2.2.1, r.2.2.2.2.2.2.2.2.2.2.2.2.1, r.2.2.2.2.2.2.2.2.2.2.2.2.2.1, r.2.2.2.2.2.2.2.2.2.2.2.2.2.2)
def wTx (r : Rst) (v : (Nat → Int32)) : Rst := (r.1, r.2.1, r.2.2.1, r.2.2.2.1, r.2.2.2.2.1, r.2.2.2.2.2.1, v, r.2.2.2.2.2.2.2.1, r.2.2.2.2.2.2.2.2.1, r.2.2.2.2.2.2.2.2.2.1, r.2.2.2.2.2.2.2.2.2.2.1, r.2.2.2.2.2.2.2.2.2.2.2.1, r.2.2.2.2.2.2.2.2.2.2.2.2.1, r.2.2.2.2.2.2.2.2.2.2.2.2.2.1, r.2.2.2.2.2.2.2.2.2.2.2.2.2.2)
def wNu (r : Rst) (v : (Nat → Int32)) : Rst := (r.1, r.2.1, r.2.2.1, r.2.2.2.1, r.2.2.2.2.1, r.2.2.2.2.2.1, r.2.2.2.2.2.2.1, v, r.2.2.2.2.2.2.2.2.1, r.2.2.2.2.2.2.2.2.2.1, r.2.2.2.2.2.2.2.2.2.2.1, r.2.2.2.2.2.2.2.2.2.2.2.1, r.2.2.2.2.2.2.2.2.2.2.2.2.1, r.2.2.2.2.2.2.2.2.2.2.2.2.2.1, r.2.2.2.2.2.2.2.2.2.2.2.2.2.2)
def wIs (r : Rst) (v : Int32) : Rst := (r.1, r.2.1, r.2.2.1, r.2.2.2.1, r.2.2.2.2.1, r.2.2.2.2.2.1, r.2.2.2.2.2.2.1, r.2.2.2.2.2.2.2.1, v, r.2.2.2.2.2.2.2.2.2.1, r.2.2.2.2.2.2.2.2.2.2.1, r.2.2.2.2.2.2.2.2.2.2.2.1, r.2.2.2.2.2.2.2.2.2.2.2.2.1, r.2.2.2.2.2.2.2.2.2.2.2.2.2.1, r.2.2.2.2.2.2.2.2.2.2.2.2.2.2)
def wPm (r : Rst) (v : Int32) : Rst := (r.1, r.2.1, r.2.2.1, r.2.2.2.1, r.2.2.2.2.1, r.2.2.2.2.2.1, r.2.2.2.2.2.2.1, r.2.2.2.2.2.2.2.1, r.2.2.2.2.2.2.2.2.1, v, r.2.2.2.2.2.2.2.2.2.2.1, r.2.2.2.2.2.2.2.2.2.2.2.1, r.2.2.2.2.2.2.2.2.2.2.2.2.1, r.2.2.2.2.2.2.2.2.2.2.2.2.2.1, r.2.2.2.2.2.2.2.2.2.2.2.2.2.2)
def wQ (r : Rst) (v : Int32) : Rst := (r.1, r.2.1, r.2.2.1, r.2.2.2.1, r.2.2.2.2.1, r.2.2.2.2.2.1, r.2.2.2.2.2.2.1, r.2.2.2.2.2.2.2.1, r.2.2.2.2.2.2.2.2.1, r.2.2.2.2.2.2.2.2.2.1, v, r.2.2.2.2.2.2.2.2.2.2.2.1, r.2.2.2.2.2.2.2.2.2.2.2.2.1, r.2.2.2.2.2.2.2.2.2.2.2.2.2.1, r.2.2.2.2.2.2.2.2.2.2.2.2.2.2)
def wWm (r : Rst) (v : Int32) : Rst := (r.1, r.2.1, r.2.2.1, r.2.2.2.1, r.2.2.2.2.1, r.2.2.2.2.2.1, r.2.2.2.2.2.2.1, r.2.2.2.2.2.2.2.1, r.2.2.2.2.2.2.2.2.1, r.2.2.2.2.2.2.2.2.2.1, r.2.2.2.2.2.2.2.2.2.2.1, v, r.2.2.2.2.2.2.2.2.2.2.2.2.1, r.2.2.2.2.2.2.2.2.2.2.2.2.2.1, r.2.2.2.2.2.2.2.2.2.2.2.2.2.2)
def wLn (r : Rst) (v : Int32) : Rst := (r.1, r.2.1, r.2.2.1, r.2.2.2.1, r.2.2.2.2.1, r.2.2.2.2.2.1, r.2.2.2.2.2.2.1, r.2.2.2.2.2.2.2.1, r.2.2.2.2.2.2.2.2.1, r.2.2.2.2.2.2.2.2.2.1, r.2.2.2.2.2.2.2.2.2.2.1, r.2.2.2.2.2.2.2.2.2.2.2.1, v, r.2.2.2.2.2.2.2.2.2.2.2.2.2.1, r.2.2.2.2.2.2.2.2.2.2.2.2.2.2)
def wPl (r : Rst) (v : Int32) : Rst := (r.1, r.2.1, r.2.2.1, r.2.2.2.1, r.2.2.2.2.1, r.2.2.2.2.2.1, r.2.2.2.2.2.2.1, r.2.2.2.2.2.2.2.1, r.2.2.2.2.2.2.2.2.1, r.2.2.2.2.2.2.2.2.2.1, r.2.2.2.2.2.2.2.2.2.2.1, r.2.2.2.2.2.2.2.2.2.2.2.1, r.2.2.2.2.2.2.2.2.2.2.2.2.1, v, r.2.2.2.2.2.2.2.2.2.2.2.2.2.2)
def wW (r : Rst) (v : Int32) : Rst := (r.1, r.2.1, r.2.2.1, r.2.2.2.1, r.2.2.2.2.1, r.2.2.2.2.2.1, r.2.2.2.2.2.2.1, r.2.2.2.2.2.2.2.1, r.2.2.2.2.2.2.2.2.1, r.2.2.2.2.2.2.2.2.2.1, r.2.2.2.2.2.2.2.2.2.2.1, r.2.2.2.2.2.2.2.2.2.2.2.1, r.2.2.2.2.2.2.2.2.2.2.2.2.1, r.2.2.2.2.2.2.2.2.2.2.2.2.2.1, v)
theorem rw_all : (∀ (r : Rst) (v : (Nat → Int64)), rS (wS r v) = v) ∧
  (∀ (r : Rst) (v : (Nat → Int64)), rSv (wS r v) = rSv r) ∧
  (∀ (r : Rst) (v : (Nat → Int64)), rPa (wS r v) = rPa r) ∧
  (∀ (r : Rst) (v : (Nat → Int64)), rKp (wS r v) = rKp r) ∧
  (∀ (r : Rst) (v : (Nat → Int64)), rBf (wS r v) = rBf r) ∧
  (∀ (r : Rst) (v : (Nat → Int64)), rWr (wS r v) = rWr r) ∧
  (∀ (r : Rst) (v : (Nat → Int64)), rTx (wS r v) = rTx r) ∧
  (∀ (r : Rst) (v : (Nat → Int64)), rNu (wS r v) = rNu r) ∧
  (∀ (r : Rst) (v : (Nat → Int64)), rIs (wS r v) = rIs r) ∧
  (∀ (r : Rst) (v : (Nat → Int64)), rPm (wS r v) = rPm r) ∧
  (∀ (r : Rst) (v : (Nat → Int64)), rQ (wS r v) = rQ r) ∧
  (∀ (r : Rst) (v : (Nat → Int64)), rWm (wS r v) = rWm r) ∧
  (∀ (r : Rst) (v : (Nat → Int64)), rLn (wS r v) = rLn r) ∧
  (∀ (r : Rst) (v : (Nat → Int64)), rPl (wS r v) = rPl r) ∧
  (∀ (r : Rst) (v : (Nat → Int64)), rW (wS r v) = rW r) ∧
  (∀ (r : Rst) (v : (Nat → Int64)), rS (wSv r v) = rS r) ∧
  (∀ (r : Rst) (v : (Nat → Int64)), rSv (wSv r v) = v) ∧
  (∀ (r : Rst) (v : (Nat → Int64)), rPa (wSv r v) = rPa r) ∧
  (∀ (r : Rst) (v : (Nat → Int64)), rKp (wSv r v) = rKp r) ∧
  (∀ (r : Rst) (v : (Nat → Int64)), rBf (wSv r v) = rBf r) ∧
  (∀ (r : Rst) (v : (Nat → Int64)), rWr (wSv r v) = rWr r) ∧
  (∀ (r : Rst) (v : (Nat → Int64)), rTx (wSv r v) = rTx r) ∧
  (∀ (r : Rst) (v : (Nat → Int64)), rNu (wSv r v) = rNu r) ∧
  (∀ (r : Rst) (v : (Nat → Int64)), rIs (wSv r v) = rIs r) ∧
  (∀ (r : Rst) (v : (Nat → Int64)), rPm (wSv r v) = rPm r) ∧
  (∀ (r : Rst) (v : (Nat → Int64)), rQ (wSv r v) = rQ r) ∧
  (∀ (r : Rst) (v : (Nat → Int64)), rWm (wSv r v) = rWm r) ∧
  (∀ (r : Rst) (v : (Nat → Int64)), rLn (wSv r v) = rLn r) ∧
  (∀ (r : Rst) (v : (Nat → Int64)), rPl (wSv r v) = rPl r) ∧
  (∀ (r : Rst) (v : (Nat → Int64)), rW (wSv r v) = rW r) ∧
  (∀ (r : Rst) (v : (Nat → Int64)), rS (wPa r v) = rS r) ∧
  (∀ (r : Rst) (v : (Nat → Int64)), rSv (wPa r v) = rSv r) ∧
  (∀ (r : Rst) (v : (Nat → Int64)), rPa (wPa r v) = v) ∧
  (∀ (r : Rst) (v : (Nat → Int64)), rKp (wPa r v) = rKp r) ∧
  (∀ (r : Rst) (v : (Nat → Int64)), rBf (wPa r v) = rBf r) ∧
  (∀ (r : Rst) (v : (Nat → Int64)), rWr (wPa r v) = rWr r) ∧
  (∀ (r : Rst) (v : (Nat → Int64)), rTx (wPa r v) = rTx r) ∧
  (∀ (r : Rst) (v : (Nat → Int64)), rNu (wPa r v) = rNu r) ∧
  (∀ (r : Rst) (v : (Nat → Int64)), rIs (wPa r v) = rIs r) ∧
  (∀ (r : Rst) (v : (Nat → Int64)), rPm (wPa r v) = rPm r) ∧
  (∀ (r : Rst) (v : (Nat → Int64)), rQ (wPa r v) = rQ r) ∧
  (∀ (r : Rst) (v : (Nat → Int64)), rWm (wPa r v) = rWm r) ∧
  (∀ (r : Rst) (v : (Nat → Int64)), rLn (wPa r v) = rLn r) ∧
  (∀ (r : Rst) (v : (Nat → Int64)), rPl (wPa r v) = rPl r) ∧
  (∀ (r : Rst) (v : (Nat → Int64)), rW (wPa r v) = rW r) ∧
  (∀ (r : Rst) (v : (Nat → Int64)), rS (wKp r v) = rS r) ∧
  (∀ (r : Rst) (v : (Nat → Int64)), rSv (wKp r v) = rSv r) ∧
  (∀ (r : Rst) (v : (Nat → Int64)), rPa (wKp r v) = rPa r) ∧
  (∀ (r : Rst) (v : (Nat → Int64)), rKp (wKp r v) = v) ∧
  (∀ (r : Rst) (v : (Nat → Int64)), rBf (wKp r v) = rBf r) ∧
  (∀ (r : Rst) (v : (Nat → Int64)), rWr (wKp r v) = rWr r) ∧
  (∀ (r : Rst) (v : (Nat → Int64)), rTx (wKp r v) = rTx r) ∧
  (∀ (r : Rst) (v : (Nat → Int64)), rNu (wKp r v) = rNu r) ∧
  (∀ (r : Rst) (v : (Nat → Int64)), rIs (wKp r v) = rIs r) ∧
  (∀ (r : Rst) (v : (Nat → Int64)), rPm (wKp r v) = rPm r) ∧
  (∀ (r : Rst) (v : (Nat → Int64)), rQ (wKp r v) = rQ r) ∧
  (∀ (r : Rst) (v : (Nat → Int64)), rWm (wKp r v) = rWm r) ∧
  (∀ (r : Rst) (v : (Nat → Int64)), rLn (wKp r v) = rLn r) ∧
  (∀ (r : Rst) (v : (Nat → Int64)), rPl (wKp r v) = rPl r) ∧
  (∀ (r : Rst) (v : (Nat → Int64)), rW (wKp r v) = rW r) ∧
  (∀ (r : Rst) (v : (Nat → Int64)), rS (wBf r v) = rS r) ∧
  (∀ (r : Rst) (v : (Nat → Int64)), rSv (wBf r v) = rSv r) ∧
  (∀ (r : Rst) (v : (Nat → Int64)), rPa (wBf r v) = rPa r) ∧
  (∀ (r : Rst) (v : (Nat → Int64)), rKp (wBf r v) = rKp r) ∧
  (∀ (r : Rst) (v : (Nat → Int64)), rBf (wBf r v) = v) ∧
  (∀ (r : Rst) (v : (Nat → Int64)), rWr (wBf r v) = rWr r) ∧
  (∀ (r : Rst) (v : (Nat → Int64)), rTx (wBf r v) = rTx r) ∧
  (∀ (r : Rst) (v : (Nat → Int64)), rNu (wBf r v) = rNu r) ∧
  (∀ (r : Rst) (v : (Nat → Int64)), rIs (wBf r v) = rIs r) ∧
  (∀ (r : Rst) (v : (Nat → Int64)), rPm (wBf r v) = rPm r) ∧
  (∀ (r : Rst) (v : (Nat → Int64)), rQ (wBf r v) = rQ r) ∧
  (∀ (r : Rst) (v : (Nat → Int64)), rWm (wBf r v) = rWm r) ∧
  (∀ (r : Rst) (v : (Nat → Int64)), rLn (wBf r v) = rLn r) ∧
  (∀ (r : Rst) (v : (Nat → Int64)), rPl (wBf r v) = rPl r) ∧
  (∀ (r : Rst) (v : (Nat → Int64)), rW (wBf r v) = rW r) ∧
  (∀ (r : Rst) (v : (Nat → Int32)), rS (wWr r v) = rS r) ∧
  (∀ (r : Rst) (v : (Nat → Int32)), rSv (wWr r v) = rSv r) ∧
  (∀ (r : Rst) (v : (Nat → Int32)), rPa (wWr r v) = rPa r) ∧
  (∀ (r : Rst) (v : (Nat → Int32)), rKp (wWr r v) = rKp r) ∧
  (∀ (r : Rst) (v : (Nat → Int32)), rBf (wWr r v) = rBf r) ∧
  (∀ (r : Rst) (v : (Nat → Int32)), rWr (wWr r v) = v) ∧
  (∀ (r : Rst) (v : (Nat → Int32)), rTx (wWr r v) = rTx r) ∧
  (∀ (r : Rst) (v : (Nat → Int32)), rNu (wWr r v) = rNu r) ∧
  (∀ (r : Rst) (v : (Nat → Int32)), rIs (wWr r v) = rIs r) ∧
  (∀ (r : Rst) (v : (Nat → Int32)), rPm (wWr r v) = rPm r) ∧
  (∀ (r : Rst) (v : (Nat → Int32)), rQ (wWr r v) = rQ r) ∧
  (∀ (r : Rst) (v : (Nat → Int32)), rWm (wWr r v) = rWm r) ∧
  (∀ (r : Rst) (v : (Nat → Int32)), rLn (wWr r v) = rLn r) ∧
  (∀ (r : Rst) (v : (Nat → Int32)), rPl (wWr r v) = rPl r) ∧
  (∀ (r : Rst) (v : (Nat → Int32)), rW (wWr r v) = rW r) ∧
  (∀ (r : Rst) (v : (Nat → Int32)), rS (wTx r v) = rS r) ∧
  (∀ (r : Rst) (v : (Nat → Int32)), rSv (wTx r v) = rSv r) ∧
  (∀ (r : Rst) (v : (Nat → Int32)), rPa (wTx r v) = rPa r) ∧
  (∀ (r : Rst) (v : (Nat → Int32)), rKp (wTx r v) = rKp r) ∧
  (∀ (r : Rst) (v : (Nat → Int32)), rBf (wTx r v) = rBf r) ∧
  (∀ (r : Rst) (v : (Nat → Int32)), rWr (wTx r v) = rWr r) ∧
  (∀ (r : Rst) (v : (Nat → Int32)), rTx (wTx r v) = v) ∧
  (∀ (r : Rst) (v : (Nat → Int32)), rNu (wTx r v) = rNu r) ∧
  (∀ (r : Rst) (v : (Nat → Int32)), rIs (wTx r v) = rIs r) ∧
  (∀ (r : Rst) (v : (Nat → Int32)), rPm (wTx r v) = rPm r) ∧
  (∀ (r : Rst) (v : (Nat → Int32)), rQ (wTx r v) = rQ r) ∧
  (∀ (r : Rst) (v : (Nat → Int32)), rWm (wTx r v) = rWm r) ∧
  (∀ (r : Rst) (v : (Nat → Int32)), rLn (wTx r v) = rLn r) ∧
  (∀ (r : Rst) (v : (Nat → Int32)), rPl (wTx r v) = rPl r) ∧
  (∀ (r : Rst) (v : (Nat → Int32)), rW (wTx r v) = rW r) ∧
  (∀ (r : Rst) (v : (Nat → Int32)), rS (wNu r v) = rS r) ∧
  (∀ (r : Rst) (v : (Nat → Int32)), rSv (wNu r v) = rSv r) ∧
  (∀ (r : Rst) (v : (Nat → Int32)), rPa (wNu r v) = rPa r) ∧
  (∀ (r : Rst) (v : (Nat → Int32)), rKp (wNu r v) = rKp r) ∧
  (∀ (r : Rst) (v : (Nat → Int32)), rBf (wNu r v) = rBf r) ∧
  (∀ (r : Rst) (v : (Nat → Int32)), rWr (wNu r v) = rWr r) ∧
  (∀ (r : Rst) (v : (Nat → Int32)), rTx (wNu r v) = rTx r) ∧
  (∀ (r : Rst) (v : (Nat → Int32)), rNu (wNu r v) = v) ∧
  (∀ (r : Rst) (v : (Nat → Int32)), rIs (wNu r v) = rIs r) ∧
  (∀ (r : Rst) (v : (Nat → Int32)), rPm (wNu r v) = rPm r) ∧
  (∀ (r : Rst) (v : (Nat → Int32)), rQ (wNu r v) = rQ r) ∧
  (∀ (r : Rst) (v : (Nat → Int32)), rWm (wNu r v) = rWm r) ∧
  (∀ (r : Rst) (v : (Nat → Int32)), rLn (wNu r v) = rLn r) ∧
  (∀ (r : Rst) (v : (Nat → Int32)), rPl (wNu r v) = rPl r) ∧
  (∀ (r : Rst) (v : (Nat → Int32)), rW (wNu r v) = rW r) ∧
  (∀ (r : Rst) (v : Int32), rS (wIs r v) = rS r) ∧
  (∀ (r : Rst) (v : Int32), rSv (wIs r v) = rSv r) ∧
  (∀ (r : Rst) (v : Int32), rPa (wIs r v) = rPa r) ∧
  (∀ (r : Rst) (v : Int32), rKp (wIs r v) = rKp r) ∧
  (∀ (r : Rst) (v : Int32), rBf (wIs r v) = rBf r) ∧
  (∀ (r : Rst) (v : Int32), rWr (wIs r v) = rWr r) ∧
  (∀ (r : Rst) (v : Int32), rTx (wIs r v) = rTx r) ∧
  (∀ (r : Rst) (v : Int32), rNu (wIs r v) = rNu r) ∧
  (∀ (r : Rst) (v : Int32), rIs (wIs r v) = v) ∧
  (∀ (r : Rst) (v : Int32), rPm (wIs r v) = rPm r) ∧
  (∀ (r : Rst) (v : Int32), rQ (wIs r v) = rQ r) ∧
  (∀ (r : Rst) (v : Int32), rWm (wIs r v) = rWm r) ∧
  (∀ (r : Rst) (v : Int32), rLn (wIs r v) = rLn r) ∧
  (∀ (r : Rst) (v : Int32), rPl (wIs r v) = rPl r) ∧
  (∀ (r : Rst) (v : Int32), rW (wIs r v) = rW r) ∧
  (∀ (r : Rst) (v : Int32), rS (wPm r v) = rS r) ∧
  (∀ (r : Rst) (v : Int32), rSv (wPm r v) = rSv r) ∧
  (∀ (r : Rst) (v : Int32), rPa (wPm r v) = rPa r) ∧
  (∀ (r : Rst) (v : Int32), rKp (wPm r v) = rKp r) ∧
  (∀ (r : Rst) (v : Int32), rBf (wPm r v) = rBf r) ∧
  (∀ (r : Rst) (v : Int32), rWr (wPm r v) = rWr r) ∧
  (∀ (r : Rst) (v : Int32), rTx (wPm r v) = rTx r) ∧
  (∀ (r : Rst) (v : Int32), rNu (wPm r v) = rNu r) ∧
  (∀ (r : Rst) (v : Int32), rIs (wPm r v) = rIs r) ∧
  (∀ (r : Rst) (v : Int32), rPm (wPm r v) = v) ∧
  (∀ (r : Rst) (v : Int32), rQ (wPm r v) = rQ r) ∧
  (∀ (r : Rst) (v : Int32), rWm (wPm r v) = rWm r) ∧
  (∀ (r : Rst) (v : Int32), rLn (wPm r v) = rLn r) ∧
  (∀ (r : Rst) (v : Int32), rPl (wPm r v) = rPl r) ∧
  (∀ (r : Rst) (v : Int32), rW (wPm r v) = rW r) ∧
  (∀ (r : Rst) (v : Int32), rS (wQ r v) = rS r) ∧
  (∀ (r : Rst) (v : Int32), rSv (wQ r v) = rSv r) ∧
  (∀ (r : Rst) (v : Int32), rPa (wQ r v) = rPa r) ∧
  (∀ (r : Rst) (v : Int32), rKp (wQ r v) = rKp r) ∧
  (∀ (r : Rst) (v : Int32), rBf (wQ r v) = rBf r) ∧
  (∀ (r : Rst) (v : Int32), rWr (wQ r v) = rWr r) ∧
  (∀ (r : Rst) (v : Int32), rTx (wQ r v) = rTx r) ∧
  (∀ (r : Rst) (v : Int32), rNu (wQ r v) = rNu r) ∧
  (∀ (r : Rst) (v : Int32), rIs (wQ r v) = rIs r) ∧
  (∀ (r : Rst) (v : Int32), rPm (wQ r v) = rPm r) ∧
  (∀ (r : Rst) (v : Int32), rQ (wQ r v) = v) ∧
  (∀ (r : Rst) (v : Int32), rWm (wQ r v) = rWm r) ∧
  (∀ (r : Rst) (v : Int32), rLn (wQ r v) = rLn r) ∧
  (∀ (r : Rst) (v : Int32), rPl (wQ r v) = rPl r) ∧
  (∀ (r : Rst) (v : Int32), rW (wQ r v) = rW r) ∧
  (∀ (r : Rst) (v : Int32), rS (wWm r v) = rS r) ∧
  (∀ (r : Rst) (v : Int32), rSv (wWm r v) = rSv r) ∧
  (∀ (r : Rst) (v : Int32), rPa (wWm r v) = rPa r) ∧
  (∀ (r : Rst) (v : Int32), rKp (wWm r v) = rKp r) ∧
  (∀ (r : Rst) (v : Int32), rBf (wWm r v) = rBf r) ∧
  (∀ (r : Rst) (v : Int32), rWr (wWm r v) = rWr r) ∧
  (∀ (r : Rst) (v : Int32), rTx (wWm r v) = rTx r) ∧
  (∀ (r : Rst) (v : Int32), rNu (wWm r v) = rNu r) ∧
  (∀ (r : Rst) (v : Int32), rIs (wWm r v) = rIs r) ∧
  (∀ (r : Rst) (v : Int32), rPm (wWm r v) = rPm r) ∧
  (∀ (r : Rst) (v : Int32), rQ (wWm r v) = rQ r) ∧
  (∀ (r : Rst) (v : Int32), rWm (wWm r v) = v) ∧
  (∀ (r : Rst) (v : Int32), rLn (wWm r v) = rLn r) ∧
  (∀ (r : Rst) (v : Int32), rPl (wWm r v) = rPl r) ∧
  (∀ (r : Rst) (v : Int32), rW (wWm r v) = rW r) ∧
  (∀ (r : Rst) (v : Int32), rS (wLn r v) = rS r) ∧
  (∀ (r : Rst) (v : Int32), rSv (wLn r v) = rSv r) ∧
  (∀ (r : Rst) (v : Int32), rPa (wLn r v) = rPa r) ∧
  (∀ (r : Rst) (v : Int32), rKp (wLn r v) = rKp r) ∧
  (∀ (r : Rst) (v : Int32), rBf (wLn r v) = rBf r) ∧
  (∀ (r : Rst) (v : Int32), rWr (wLn r v) = rWr r) ∧
  (∀ (r : Rst) (v : Int32), rTx (wLn r v) = rTx r) ∧
  (∀ (r : Rst) (v : Int32), rNu (wLn r v) = rNu r) ∧
  (∀ (r : Rst) (v : Int32), rIs (wLn r v) = rIs r) ∧
  (∀ (r : Rst) (v : Int32), rPm (wLn r v) = rPm r) ∧
  (∀ (r : Rst) (v : Int32), rQ (wLn r v) = rQ r) ∧
  (∀ (r : Rst) (v : Int32), rWm (wLn r v) = rWm r) ∧
  (∀ (r : Rst) (v : Int32), rLn (wLn r v) = v) ∧
  (∀ (r : Rst) (v : Int32), rPl (wLn r v) = rPl r) ∧
  (∀ (r : Rst) (v : Int32), rW (wLn r v) = rW r) ∧
  (∀ (r : Rst) (v : Int32), rS (wPl r v) = rS r) ∧
  (∀ (r : Rst) (v : Int32), rSv (wPl r v) = rSv r) ∧
  (∀ (r : Rst) (v : Int32), rPa (wPl r v) = rPa r) ∧
  (∀ (r : Rst) (v : Int32), rKp (wPl r v) = rKp r) ∧
  (∀ (r : Rst) (v : Int32), rBf (wPl r v) = rBf r) ∧
  (∀ (r : Rst) (v : Int32), rWr (wPl r v) = rWr r) ∧
  (∀ (r : Rst) (v : Int32), rTx (wPl r v) = rTx r) ∧
  (∀ (r : Rst) (v : Int32), rNu (wPl r v) = rNu r) ∧
  (∀ (r : Rst) (v : Int32), rIs (wPl r v) = rIs r) ∧
  (∀ (r : Rst) (v : Int32), rPm (wPl r v) = rPm r) ∧
  (∀ (r : Rst) (v : Int32), rQ (wPl r v) = rQ r) ∧
  (∀ (r : Rst) (v : Int32), rWm (wPl r v) = rWm r) ∧
  (∀ (r : Rst) (v : Int32), rLn (wPl r v) = rLn r) ∧
  (∀ (r : Rst) (v : Int32), rPl (wPl r v) = v) ∧
  (∀ (r : Rst) (v : Int32), rW (wPl r v) = rW r) ∧
  (∀ (r : Rst) (v : Int32), rS (wW r v) = rS r) ∧
  (∀ (r : Rst) (v : Int32), rSv (wW r v) = rSv r) ∧
  (∀ (r : Rst) (v : Int32), rPa (wW r v) = rPa r) ∧
  (∀ (r : Rst) (v : Int32), rKp (wW r v) = rKp r) ∧
  (∀ (r : Rst) (v : Int32), rBf (wW r v) = rBf r) ∧
  (∀ (r : Rst) (v : Int32), rWr (wW r v) = rWr r) ∧
  (∀ (r : Rst) (v : Int32), rTx (wW r v) = rTx r) ∧
  (∀ (r : Rst) (v : Int32), rNu (wW r v) = rNu r) ∧
  (∀ (r : Rst) (v : Int32), rIs (wW r v) = rIs r) ∧
  (∀ (r : Rst) (v : Int32), rPm (wW r v) = rPm r) ∧
  (∀ (r : Rst) (v : Int32), rQ (wW r v) = rQ r) ∧
  (∀ (r : Rst) (v : Int32), rWm (wW r v) = rWm r) ∧
  (∀ (r : Rst) (v : Int32), rLn (wW r v) = rLn r) ∧
  (∀ (r : Rst) (v : Int32), rPl (wW r v) = rPl r) ∧
  (∀ (r : Rst) (v : Int32), rW (wW r v) = v) := by
  refine ⟨?_, ?_, ?_, ?_, ?_, ?_, ?_, ?_, ?_, ?_, ?_, ?_, ?_, ?_, ?_, ?_, ?_, ?_, ?_, ?_, ?_, ?_, ?_, ?_, ?_, ?_, ?_, ?_, ?_, ?_, ?_, ?_, ?_, ?_, ?_, ?_, ?_, ?_, ?_, ?_, ?_, ?_, ?_, ?_, ?_, ?_, ?_, ?_, ?_, ?_, ?_, ?_, ?_, ?_, ?_, ?_, ?_, ?_, ?_, ?_, ?_, ?_, ?_, ?_, ?_, ?_, ?_, ?_, ?_, ?_, ?_, ?_, ?_, ?_, ?_, ?_, ?_, ?_, ?_, ?_, ?_, ?_, ?_, ?_, ?_, ?_, ?_, ?_, ?_, ?_, ?_, ?_, ?_, ?_, ?_, ?_, ?_, ?_, ?_, ?_, ?_, ?_, ?_, ?_, ?_, ?_, ?_, ?_, ?_, ?_, ?_, ?_, ?_, ?_, ?_, ?_, ?_, ?_, ?_, ?_, ?_, ?_, ?_, ?_, ?_, ?_, ?_, ?_, ?_, ?_, ?_, ?_, ?_, ?_, ?_, ?_, ?_, ?_, ?_, ?_, ?_, ?_, ?_, ?_, ?_, ?_, ?_, ?_, ?_, ?_, ?_, ?_, ?_, ?_, ?_, ?_, ?_, ?_, ?_, ?_, ?_, ?_, ?_, ?_, ?_, ?_, ?_, ?_, ?_, ?_, ?_, ?_, ?_, ?_, ?_, ?_, ?_, ?_, ?_, ?_, ?_, ?_, ?_, ?_, ?_, ?_, ?_, ?_, ?_, ?_, ?_, ?_, ?_, ?_, ?_, ?_, ?_, ?_, ?_, ?_, ?_, ?_, ?_, ?_, ?_, ?_, ?_, ?_, ?_, ?_, ?_, ?_, ?_, ?_, ?_, ?_, ?_, ?_, ?_, ?_, ?_, ?_, ?_, ?_, ?_⟩ <;> intros <;> rfl
theorem ww_all : (∀ (r : Rst) (v v2 : (Nat → Int64)), wS (wS r v) v2 = wS r v2) ∧
  (∀ (r : Rst) (v v2 : (Nat → Int64)), wSv (wSv r v) v2 = wSv r v2) ∧
  (∀ (r : Rst) (v v2 : (Nat → Int64)), wPa (wPa r v) v2 = wPa r v2) ∧
  (∀ (r : Rst) (v v2 : (Nat → Int64)), wKp (wKp r v) v2 = wKp r v2) ∧
  (∀ (r : Rst) (v v2 : (Nat → Int64)), wBf (wBf r v) v2 = wBf r v2) ∧
  (∀ (r : Rst) (v v2 : (Nat → Int32)), wWr (wWr r v) v2 = wWr r v2) ∧
  (∀ (r : Rst) (v v2 : (Nat → Int32)), wTx (wTx r v) v2 = wTx r v2) ∧
  (∀ (r : Rst) (v v2 : (Nat → Int32)), wNu (wNu r v) v2 = wNu r v2) ∧
  (∀ (r : Rst) (v v2 : Int32), wIs (wIs r v) v2 = wIs r v2) ∧
  (∀ (r : Rst) (v v2 : Int32), wPm (wPm r v) v2 = wPm r v2) ∧
  (∀ (r : Rst) (v v2 : Int32), wQ (wQ r v) v2 = wQ r v2) ∧
  (∀ (r : Rst) (v v2 : Int32), wWm (wWm r v) v2 = wWm r v2) ∧
  (∀ (r : Rst) (v v2 : Int32), wLn (wLn r v) v2 = wLn r v2) ∧
  (∀ (r : Rst) (v v2 : Int32), wPl (wPl r v) v2 = wPl r v2) ∧
  (∀ (r : Rst) (v v2 : Int32), wW (wW r v) v2 = wW r v2) := by
  refine ⟨?_, ?_, ?_, ?_, ?_, ?_, ?_, ?_, ?_, ?_, ?_, ?_, ?_, ?_, ?_⟩ <;> intros <;> rfl
theorem wr_all : (∀ (r : Rst), wS r (rS r) = r) ∧
  (∀ (r : Rst), wSv r (rSv r) = r) ∧
  (∀ (r : Rst), wPa r (rPa r) = r) ∧
  (∀ (r : Rst), wKp r (rKp r) = r) ∧
  (∀ (r : Rst), wBf r (rBf r) = r) ∧
  (∀ (r : Rst), wWr r (rWr r) = r) ∧
  (∀ (r : Rst), wTx r (rTx r) = r) ∧
  (∀ (r : Rst), wNu r (rNu r) = r) ∧
  (∀ (r : Rst), wIs r (rIs r) = r) ∧
  (∀ (r : Rst), wPm r (rPm r) = r) ∧
  (∀ (r : Rst), wQ r (rQ r) = r) ∧
  (∀ (r : Rst), wWm r (rWm r) = r) ∧
  (∀ (r : Rst), wLn r (rLn r) = r) ∧
  (∀ (r : Rst), wPl r (rPl r) = r) ∧
  (∀ (r : Rst), wW r (rW r) = r) := by
  refine ⟨?_, ?_, ?_, ?_, ?_, ?_, ?_, ?_, ?_, ?_, ?_, ?_, ?_, ?_, ?_⟩ <;> intros <;> rfl
def cellM (m : Nat) (r : Rst) : Nat → zC
  | 0 => .inr (12, [.ref (m + 1), .ref (m + 2), .int (rIs r), .ref (m + 3), .int (rPm r), .ref (m + 4), .ref (m + 5), .int (rQ r), .ref (m + 6), .int (rWm r), .ref (m + 7), .int (rLn r), .int (rPl r), .int (rW r), .ref (m + 8)])
  | 1 => .inl (1, 8271, .inr (.inl (rS r)))
  | 2 => .inl (1, 8271, .inr (.inl (rSv r)))
  | 3 => .inl (1, 49626, .inr (.inl (rPa r)))
  | 4 => .inl (1, 8271, .inr (.inl (rKp r)))
  | 5 => .inl (1, 8271, .inr (.inl (rBf r)))
  | 6 => .inl (2, 2160, .inl (rWr r))
  | 7 => .inl (2, 60, .inl (rTx r))
  | 8 => .inl (0, 3, .inl (rNu r))
  | _ => zNo
def putM (m : Nat) (r : Rst) (h : zH) : zH := (h.1, h.2.1, fun a => if a < m then h.2.2 a else if a < m + 9 then cellM m r (a - m) else h.2.2 a)
theorem putM_at (m k : Nat) (r : Rst) (h : zH) (hk : k < 9) : (putM m r h).2.2 (m + k) = cellM m r k := by
  show (if m + k < m then h.2.2 (m + k) else if m + k < m + 9 then cellM m r (m + k - m) else h.2.2 (m + k)) = _
  rw [if_neg (by omega), if_pos (by omega), Nat.add_sub_cancel_left]
theorem putM_0 (m : Nat) (r : Rst) (h : zH) : (putM m r h).2.2 m = cellM m r 0 := putM_at m 0 r h (by omega)
theorem putM_out {m a : Nat} (r : Rst) (h : zH) (ha : a < m ∨ m + 9 ≤ a) : (putM m r h).2.2 a = h.2.2 a := by
  show (if a < m then h.2.2 a else if a < m + 9 then cellM m r (a - m) else h.2.2 a) = _
  by_cases h1 : a < m
  · rw [if_pos h1]
  · rw [if_neg h1, if_neg (by omega)]
theorem putM_put (m : Nat) (r r2 : Rst) (h : zH) : putM m r2 (putM m r h) = putM m r2 h := by
  refine Prod.ext rfl (Prod.ext rfl (funext fun a => ?_))
  show (if a < m then (if a < m then h.2.2 a else if a < m + 9 then cellM m r (a - m) else h.2.2 a) else if a < m + 9 then cellM m r2 (a - m) else (if a < m then h.2.2 a else if a < m + 9 then cellM m r (a - m) else h.2.2 a)) = if a < m then h.2.2 a else if a < m + 9 then cellM m r2 (a - m) else h.2.2 a
  split
  · rfl
  · split <;> rfl
theorem putM_set {m k : Nat} {r r2 : Rst} {h : zH} {c : zC} (hk : k < 9) (hc : cellM m r2 k = c) (ho : ∀ j, j < 9 → j ≠ k → cellM m r2 j = cellM m r j) : zset (putM m r h) (m + k) c = putM m r2 h := by
  refine Prod.ext rfl (Prod.ext rfl (funext fun a => ?_))
  show (if a = m + k then c else if a < m then h.2.2 a else if a < m + 9 then cellM m r (a - m) else h.2.2 a) = if a < m then h.2.2 a else if a < m + 9 then cellM m r2 (a - m) else h.2.2 a
  by_cases e : a = m + k
  · subst e
    rw [if_pos rfl, if_neg (by omega), if_pos (by omega), Nat.add_sub_cancel_left, hc]
  · rw [if_neg e]
    by_cases h1 : a < m
    · rw [if_pos h1, if_pos h1]
    · rw [if_neg h1, if_neg h1]
      by_cases h2 : a < m + 9
      · rw [if_pos h2, if_pos h2, ho (a - m) (by omega) (by omega)]
      · rw [if_neg h2, if_neg h2]
theorem z9 {P : Nat → Prop} (k : Nat) (h0 : 0 ≠ k → P 0) (h1 : 1 ≠ k → P 1) (h2 : 2 ≠ k → P 2) (h3 : 3 ≠ k → P 3) (h4 : 4 ≠ k → P 4) (h5 : 5 ≠ k → P 5) (h6 : 6 ≠ k → P 6) (h7 : 7 ≠ k → P 7) (h8 : 8 ≠ k → P 8) : ∀ j, j < 9 → j ≠ k → P j := by
  intro j hj hn
  rcases (show j = 0 ∨ j = 1 ∨ j = 2 ∨ j = 3 ∨ j = 4 ∨ j = 5 ∨ j = 6 ∨ j = 7 ∨ j = 8 by omega) with rfl | rfl | rfl | rfl | rfl | rfl | rfl | rfl | rfl
  · exact h0 hn
  · exact h1 hn
  · exact h2 hn
  · exact h3 hn
  · exact h4 hn
  · exact h5 hn
  · exact h6 hn
  · exact h7 hn
  · exact h8 hn
section
variable {β : Type} {m : Nat} {r : Rst} {h : zH}
theorem kd_M : zkd (putM m r h) m = 12 := by rw [zkd, putM_0]; rfl
theorem gf_M0 (f : Value → Option β) : zgf (putM m r h) m 12 0 f = f (.ref (m + 1)) := by rw [zgf, putM_0]; rfl
theorem gf_M1 (f : Value → Option β) : zgf (putM m r h) m 12 1 f = f (.ref (m + 2)) := by rw [zgf, putM_0]; rfl
theorem gf_M2 (f : Value → Option β) : zgf (putM m r h) m 12 2 f = f (.int (rIs r)) := by rw [zgf, putM_0]; rfl
theorem gf_M3 (f : Value → Option β) : zgf (putM m r h) m 12 3 f = f (.ref (m + 3)) := by rw [zgf, putM_0]; rfl
theorem gf_M4 (f : Value → Option β) : zgf (putM m r h) m 12 4 f = f (.int (rPm r)) := by rw [zgf, putM_0]; rfl
theorem gf_M5 (f : Value → Option β) : zgf (putM m r h) m 12 5 f = f (.ref (m + 4)) := by rw [zgf, putM_0]; rfl
theorem gf_M6 (f : Value → Option β) : zgf (putM m r h) m 12 6 f = f (.ref (m + 5)) := by rw [zgf, putM_0]; rfl
theorem gf_M7 (f : Value → Option β) : zgf (putM m r h) m 12 7 f = f (.int (rQ r)) := by rw [zgf, putM_0]; rfl
theorem gf_M8 (f : Value → Option β) : zgf (putM m r h) m 12 8 f = f (.ref (m + 6)) := by rw [zgf, putM_0]; rfl
theorem gf_M9 (f : Value → Option β) : zgf (putM m r h) m 12 9 f = f (.int (rWm r)) := by rw [zgf, putM_0]; rfl
theorem gf_M10 (f : Value → Option β) : zgf (putM m r h) m 12 10 f = f (.ref (m + 7)) := by rw [zgf, putM_0]; rfl
theorem gf_M11 (f : Value → Option β) : zgf (putM m r h) m 12 11 f = f (.int (rLn r)) := by rw [zgf, putM_0]; rfl
theorem gf_M12 (f : Value → Option β) : zgf (putM m r h) m 12 12 f = f (.int (rPl r)) := by rw [zgf, putM_0]; rfl
theorem gf_M13 (f : Value → Option β) : zgf (putM m r h) m 12 13 f = f (.int (rW r)) := by rw [zgf, putM_0]; rfl
theorem gf_M14 (f : Value → Option β) : zgf (putM m r h) m 12 14 f = f (.ref (m + 8)) := by rw [zgf, putM_0]; rfl
theorem gf_M : (∀ (f : Value → Option β), zgf (putM m r h) m 12 0 f = f (.ref (m + 1))) ∧ (∀ (f : Value → Option β), zgf (putM m r h) m 12 1 f = f (.ref (m + 2))) ∧ (∀ (f : Value → Option β), zgf (putM m r h) m 12 2 f = f (.int (rIs r))) ∧ (∀ (f : Value → Option β), zgf (putM m r h) m 12 3 f = f (.ref (m + 3))) ∧ (∀ (f : Value → Option β), zgf (putM m r h) m 12 4 f = f (.int (rPm r))) ∧ (∀ (f : Value → Option β), zgf (putM m r h) m 12 5 f = f (.ref (m + 4))) ∧ (∀ (f : Value → Option β), zgf (putM m r h) m 12 6 f = f (.ref (m + 5))) ∧ (∀ (f : Value → Option β), zgf (putM m r h) m 12 7 f = f (.int (rQ r))) ∧ (∀ (f : Value → Option β), zgf (putM m r h) m 12 8 f = f (.ref (m + 6))) ∧ (∀ (f : Value → Option β), zgf (putM m r h) m 12 9 f = f (.int (rWm r))) ∧ (∀ (f : Value → Option β), zgf (putM m r h) m 12 10 f = f (.ref (m + 7))) ∧ (∀ (f : Value → Option β), zgf (putM m r h) m 12 11 f = f (.int (rLn r))) ∧ (∀ (f : Value → Option β), zgf (putM m r h) m 12 12 f = f (.int (rPl r))) ∧ (∀ (f : Value → Option β), zgf (putM m r h) m 12 13 f = f (.int (rW r))) ∧ (∀ (f : Value → Option β), zgf (putM m r h) m 12 14 f = f (.ref (m + 8))) := ⟨gf_M0, gf_M1, gf_M2, gf_M3, gf_M4, gf_M5, gf_M6, gf_M7, gf_M8, gf_M9, gf_M10, gf_M11, gf_M12, gf_M13, gf_M14⟩
theorem pf_M2 (hm : 100 ≤ m) (x : Int32) (hx : x = nI 0 ∨ x = nI 1) (f : zH → Option β) : zpf (putM m r h) m 12 2 (.int x) f = f (putM m (wIs r x) h) := by
  rw [zpf, putM_0]
  refine (if_pos ⟨rfl, Nat.le_of_ble_eq_true rfl, hm, by rcases hx with rfl | rfl <;> rfl⟩).trans (congrArg f (putM_set (k := 0) (by omega) rfl ?_))
  exact z9 0 (fun h => absurd rfl h) (fun _ => rfl) (fun _ => rfl) (fun _ => rfl) (fun _ => rfl) (fun _ => rfl) (fun _ => rfl) (fun _ => rfl) (fun _ => rfl)
theorem pf_M4 (hm : 100 ≤ m) (x : Int32) (f : zH → Option β) : zpf (putM m r h) m 12 4 (.int x) f = f (putM m (wPm r x) h) := by
  rw [zpf, putM_0]
  refine (if_pos ⟨rfl, Nat.le_of_ble_eq_true rfl, hm, rfl⟩).trans (congrArg f (putM_set (k := 0) (by omega) rfl ?_))
  exact z9 0 (fun h => absurd rfl h) (fun _ => rfl) (fun _ => rfl) (fun _ => rfl) (fun _ => rfl) (fun _ => rfl) (fun _ => rfl) (fun _ => rfl) (fun _ => rfl)
theorem pf_M7 (hm : 100 ≤ m) (x : Int32) (hx : x = nI 0 ∨ x = nI 1) (f : zH → Option β) : zpf (putM m r h) m 12 7 (.int x) f = f (putM m (wQ r x) h) := by
  rw [zpf, putM_0]
  refine (if_pos ⟨rfl, Nat.le_of_ble_eq_true rfl, hm, by rcases hx with rfl | rfl <;> rfl⟩).trans (congrArg f (putM_set (k := 0) (by omega) rfl ?_))
  exact z9 0 (fun h => absurd rfl h) (fun _ => rfl) (fun _ => rfl) (fun _ => rfl) (fun _ => rfl) (fun _ => rfl) (fun _ => rfl) (fun _ => rfl) (fun _ => rfl)
theorem pf_M9 (hm : 100 ≤ m) (x : Int32) (f : zH → Option β) : zpf (putM m r h) m 12 9 (.int x) f = f (putM m (wWm r x) h) := by
  rw [zpf, putM_0]
  refine (if_pos ⟨rfl, Nat.le_of_ble_eq_true rfl, hm, rfl⟩).trans (congrArg f (putM_set (k := 0) (by omega) rfl ?_))
  exact z9 0 (fun h => absurd rfl h) (fun _ => rfl) (fun _ => rfl) (fun _ => rfl) (fun _ => rfl) (fun _ => rfl) (fun _ => rfl) (fun _ => rfl) (fun _ => rfl)
theorem pf_M11 (hm : 100 ≤ m) (x : Int32) (f : zH → Option β) : zpf (putM m r h) m 12 11 (.int x) f = f (putM m (wLn r x) h) := by
  rw [zpf, putM_0]
  refine (if_pos ⟨rfl, Nat.le_of_ble_eq_true rfl, hm, rfl⟩).trans (congrArg f (putM_set (k := 0) (by omega) rfl ?_))
  exact z9 0 (fun h => absurd rfl h) (fun _ => rfl) (fun _ => rfl) (fun _ => rfl) (fun _ => rfl) (fun _ => rfl) (fun _ => rfl) (fun _ => rfl) (fun _ => rfl)
theorem pf_M12 (hm : 100 ≤ m) (x : Int32) (f : zH → Option β) : zpf (putM m r h) m 12 12 (.int x) f = f (putM m (wPl r x) h) := by
  rw [zpf, putM_0]
  refine (if_pos ⟨rfl, Nat.le_of_ble_eq_true rfl, hm, rfl⟩).trans (congrArg f (putM_set (k := 0) (by omega) rfl ?_))
  exact z9 0 (fun h => absurd rfl h) (fun _ => rfl) (fun _ => rfl) (fun _ => rfl) (fun _ => rfl) (fun _ => rfl) (fun _ => rfl) (fun _ => rfl) (fun _ => rfl)
theorem pf_M13 (hm : 100 ≤ m) (x : Int32) (hx : x = nI 0 ∨ x = nI 1) (f : zH → Option β) : zpf (putM m r h) m 12 13 (.int x) f = f (putM m (wW r x) h) := by
  rw [zpf, putM_0]
  refine (if_pos ⟨rfl, Nat.le_of_ble_eq_true rfl, hm, by rcases hx with rfl | rfl <;> rfl⟩).trans (congrArg f (putM_set (k := 0) (by omega) rfl ?_))
  exact z9 0 (fun h => absurd rfl h) (fun _ => rfl) (fun _ => rfl) (fun _ => rfl) (fun _ => rfl) (fun _ => rfl) (fun _ => rfl) (fun _ => rfl) (fun _ => rfl)
theorem zin_nI {j N : Nat} (hj : j < N) (hN : N < 2 ^ 31) : zin (nI j) N = true := decide_eq_true (vp_in_nI hj hN)
theorem lj_M1 {k : Nat} (hk : k < 8271) (f : Int64 → Option β) : zlj (putM m r h) (m + 1) (nI k) f = f (rS r k) := by
  rw [zlj, putM_at _ _ _ _ (by omega)]
  refine (if_pos ⟨rfl, zin_nI hk (by omega)⟩).trans ?_
  rw [nI_clamp (by omega)]
theorem sj_M1 (hm : 100 ≤ m) {k : Nat} (hk : k < 8271) (x : Int64) (f : zH → Option β) : zsj (putM m r h) (m + 1) (nI k) x f = f (putM m (wS r (vp_updL (rS r) k x)) h) := by
  rw [zsj, putM_at _ _ _ _ (by omega)]
  refine (if_pos ⟨rfl, zin_nI hk (by omega), by omega⟩).trans (congrArg f ?_)
  rw [nI_clamp (by omega)]
  exact putM_set (by omega) rfl (z9 1 (fun _ => rfl) (fun h => absurd rfl h) (fun _ => rfl) (fun _ => rfl) (fun _ => rfl) (fun _ => rfl) (fun _ => rfl) (fun _ => rfl) (fun _ => rfl))
theorem lj_M2 {k : Nat} (hk : k < 8271) (f : Int64 → Option β) : zlj (putM m r h) (m + 2) (nI k) f = f (rSv r k) := by
  rw [zlj, putM_at _ _ _ _ (by omega)]
  refine (if_pos ⟨rfl, zin_nI hk (by omega)⟩).trans ?_
  rw [nI_clamp (by omega)]
theorem sj_M2 (hm : 100 ≤ m) {k : Nat} (hk : k < 8271) (x : Int64) (f : zH → Option β) : zsj (putM m r h) (m + 2) (nI k) x f = f (putM m (wSv r (vp_updL (rSv r) k x)) h) := by
  rw [zsj, putM_at _ _ _ _ (by omega)]
  refine (if_pos ⟨rfl, zin_nI hk (by omega), by omega⟩).trans (congrArg f ?_)
  rw [nI_clamp (by omega)]
  exact putM_set (by omega) rfl (z9 2 (fun _ => rfl) (fun _ => rfl) (fun h => absurd rfl h) (fun _ => rfl) (fun _ => rfl) (fun _ => rfl) (fun _ => rfl) (fun _ => rfl) (fun _ => rfl))
theorem lj_M3 {k : Nat} (hk : k < 49626) (f : Int64 → Option β) : zlj (putM m r h) (m + 3) (nI k) f = f (rPa r k) := by
  rw [zlj, putM_at _ _ _ _ (by omega)]
  refine (if_pos ⟨rfl, zin_nI hk (by omega)⟩).trans ?_
  rw [nI_clamp (by omega)]
theorem sj_M3 (hm : 100 ≤ m) {k : Nat} (hk : k < 49626) (x : Int64) (f : zH → Option β) : zsj (putM m r h) (m + 3) (nI k) x f = f (putM m (wPa r (vp_updL (rPa r) k x)) h) := by
  rw [zsj, putM_at _ _ _ _ (by omega)]
  refine (if_pos ⟨rfl, zin_nI hk (by omega), by omega⟩).trans (congrArg f ?_)
  rw [nI_clamp (by omega)]
  exact putM_set (by omega) rfl (z9 3 (fun _ => rfl) (fun _ => rfl) (fun _ => rfl) (fun h => absurd rfl h) (fun _ => rfl) (fun _ => rfl) (fun _ => rfl) (fun _ => rfl) (fun _ => rfl))
theorem lj_M4 {k : Nat} (hk : k < 8271) (f : Int64 → Option β) : zlj (putM m r h) (m + 4) (nI k) f = f (rKp r k) := by
  rw [zlj, putM_at _ _ _ _ (by omega)]
  refine (if_pos ⟨rfl, zin_nI hk (by omega)⟩).trans ?_
  rw [nI_clamp (by omega)]
theorem sj_M4 (hm : 100 ≤ m) {k : Nat} (hk : k < 8271) (x : Int64) (f : zH → Option β) : zsj (putM m r h) (m + 4) (nI k) x f = f (putM m (wKp r (vp_updL (rKp r) k x)) h) := by
  rw [zsj, putM_at _ _ _ _ (by omega)]
  refine (if_pos ⟨rfl, zin_nI hk (by omega), by omega⟩).trans (congrArg f ?_)
  rw [nI_clamp (by omega)]
  exact putM_set (by omega) rfl (z9 4 (fun _ => rfl) (fun _ => rfl) (fun _ => rfl) (fun _ => rfl) (fun h => absurd rfl h) (fun _ => rfl) (fun _ => rfl) (fun _ => rfl) (fun _ => rfl))
theorem lj_M5 {k : Nat} (hk : k < 8271) (f : Int64 → Option β) : zlj (putM m r h) (m + 5) (nI k) f = f (rBf r k) := by
  rw [zlj, putM_at _ _ _ _ (by omega)]
  refine (if_pos ⟨rfl, zin_nI hk (by omega)⟩).trans ?_
  rw [nI_clamp (by omega)]
theorem sj_M5 (hm : 100 ≤ m) {k : Nat} (hk : k < 8271) (x : Int64) (f : zH → Option β) : zsj (putM m r h) (m + 5) (nI k) x f = f (putM m (wBf r (vp_updL (rBf r) k x)) h) := by
  rw [zsj, putM_at _ _ _ _ (by omega)]
  refine (if_pos ⟨rfl, zin_nI hk (by omega), by omega⟩).trans (congrArg f ?_)
  rw [nI_clamp (by omega)]
  exact putM_set (by omega) rfl (z9 5 (fun _ => rfl) (fun _ => rfl) (fun _ => rfl) (fun _ => rfl) (fun _ => rfl) (fun h => absurd rfl h) (fun _ => rfl) (fun _ => rfl) (fun _ => rfl))
theorem li_M6 {k : Nat} (hk : k < 2160) (f : Int32 → Option β) : zli (putM m r h) (m + 6) 2 (nI k) f = f (rWr r k) := by
  rw [zli, putM_at _ _ _ _ (by omega)]
  refine (if_pos ⟨rfl, zin_nI hk (by omega)⟩).trans ?_
  rw [nI_clamp (by omega)]
theorem si_M6 (hm : 100 ≤ m) {k : Nat} (hk : k < 2160) (x : Int32) (f : zH → Option β) : zsi (putM m r h) (m + 6) 2 (nI k) x f = f (putM m (wWr r (upd (rWr r) k x)) h) := by
  rw [zsi, putM_at _ _ _ _ (by omega)]
  refine (if_pos ⟨rfl, zin_nI hk (by omega), by omega⟩).trans (congrArg f ?_)
  rw [nI_clamp (by omega)]
  exact putM_set (by omega) rfl (z9 6 (fun _ => rfl) (fun _ => rfl) (fun _ => rfl) (fun _ => rfl) (fun _ => rfl) (fun _ => rfl) (fun h => absurd rfl h) (fun _ => rfl) (fun _ => rfl))
theorem li_M7 {k : Nat} (hk : k < 60) (f : Int32 → Option β) : zli (putM m r h) (m + 7) 2 (nI k) f = f (rTx r k) := by
  rw [zli, putM_at _ _ _ _ (by omega)]
  refine (if_pos ⟨rfl, zin_nI hk (by omega)⟩).trans ?_
  rw [nI_clamp (by omega)]
theorem si_M7 (hm : 100 ≤ m) {k : Nat} (hk : k < 60) (x : Int32) (f : zH → Option β) : zsi (putM m r h) (m + 7) 2 (nI k) x f = f (putM m (wTx r (upd (rTx r) k x)) h) := by
  rw [zsi, putM_at _ _ _ _ (by omega)]
  refine (if_pos ⟨rfl, zin_nI hk (by omega), by omega⟩).trans (congrArg f ?_)
  rw [nI_clamp (by omega)]
  exact putM_set (by omega) rfl (z9 7 (fun _ => rfl) (fun _ => rfl) (fun _ => rfl) (fun _ => rfl) (fun _ => rfl) (fun _ => rfl) (fun _ => rfl) (fun h => absurd rfl h) (fun _ => rfl))
theorem li_M8 {k : Nat} (hk : k < 3) (f : Int32 → Option β) : zli (putM m r h) (m + 8) 0 (nI k) f = f (rNu r k) := by
  rw [zli, putM_at _ _ _ _ (by omega)]
  refine (if_pos ⟨rfl, zin_nI hk (by omega)⟩).trans ?_
  rw [nI_clamp (by omega)]
theorem si_M8 (hm : 100 ≤ m) {k : Nat} (hk : k < 3) (x : Int32) (f : zH → Option β) : zsi (putM m r h) (m + 8) 0 (nI k) x f = f (putM m (wNu r (upd (rNu r) k x)) h) := by
  rw [zsi, putM_at _ _ _ _ (by omega)]
  refine (if_pos ⟨rfl, zin_nI hk (by omega), by omega⟩).trans (congrArg f ?_)
  rw [nI_clamp (by omega)]
  exact putM_set (by omega) rfl (z9 8 (fun _ => rfl) (fun _ => rfl) (fun _ => rfl) (fun _ => rfl) (fun _ => rfl) (fun _ => rfl) (fun _ => rfl) (fun _ => rfl) (fun h => absurd rfl h))
end
