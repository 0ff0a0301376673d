/-! the model's dimension: lines less the first one, by remainders -/
def subL (v u : List Int) : List Int := List.zipWith (fun a b => (a - b + 1000003) % 1000003) v u
def pwF : Nat → Int → Int → Int → Int
  | 0, pr, _, _ => pr
  | k + 1, pr, fa, le => if 0 < le then pwF k (if le % 2 = 1 then pr * fa % 1000003 else pr) (fa * fa % 1000003) (le / 2) else pr
def nmz (v : List Int) (p : Nat) : List Int := v.map (fun a => a * pwF 20 1 (v.getD p 0) 1000001 % 1000003)
def rdz (v b : List Int) (p : Nat) : List Int := List.zipWith (fun a c => (a + 1000003 - v.getD p 0 * c % 1000003) % 1000003) v b
def inL (B : List (List Int)) : Nat → Nat → List Int → List (List Int) × Int
  | 0, _, _ => (B, 0)
  | k + 1, p, v => if v.getD p 0 = 0 then inL B k (p + 1) v else if B.getD p [] = [] then (B.set p (nmz v p), 1) else inL B k (p + 1) (rdz v (B.getD p []) p)
def lmA (n kind line : Int) : Nat → List Int
  | 0 => List.replicate 36 0
  | k + 1 => (lmA n kind line k).set (onl n kind line k).toNat 1
def lmR (n kind line : Int) : List Int := lmA n kind line n.toNat
def opM (n p : Int) : List Int := bmp (bmp (List.replicate 36 0) p 1) (n * n - 1 - p) 1
def isOb (n s kind k : Int) : Bool := if kind < 2 then decide (bnd2 s (if kind = 0 then 2 else 4) ≠ 0) else decide (bnd2 s 16 ≠ 0 ∨ (bnd2 s 8 ≠ 0 ∧ k = (if kind = 2 then 0 else n - 1)))
/-- basis, rank, the first line, whether there was one -/
def dmT (n : Int) (v : List Int) (S : List (List Int) × Int × List Int × Bool) : List (List Int) × Int × List Int × Bool :=
  if S.2.2.2 = false then (S.1, S.2.1, v, true) else ((inL S.1 36 0 (subL v S.2.2.1)).1, S.2.1 + (inL S.1 36 0 (subL v S.2.2.1)).2, S.2.2.1, true)
def dmA (n s : Int) : Nat → List (List Int) × Int × List Int × Bool
  | 0 => (List.replicate 36 [], 0, [], false)
  | k + 1 => if isOb n s ((k : Int) / n) ((k : Int) % n) = true then dmT n (lmR n ((k : Int) / n) ((k : Int) % n)) (dmA n s k) else dmA n s k
def dmO (n s : Int) : Nat → List (List Int) × Int × List Int × Bool
  | 0 => ((dmA n s (4 * n).toNat).1, (dmA n s (4 * n).toNat).2.1, [], false)
  | k + 1 => dmT n (opM n k) (dmO n s k)
def dimM (n s : Int) : Int := n * n - (if bnd2 s 32 ≠ 0 then (dmO n s (n * n).toNat).2.1 else (dmA n s (4 * n).toNat).2.1)
