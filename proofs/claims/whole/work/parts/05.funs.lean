-- the class, as functions of the state
def cput (X : VV) (i x : Nat) : VV := if X (37 + 2 * i) 2 < 75 then pt (pt X (37 + 2 * i + 1) (X (37 + 2 * i) 2) x) (37 + 2 * i) 2 (X (37 + 2 * i) 2 + 1) else X
def cpo (X : VV) (p set x : Nat) : Nat → VV
  | 0 => X
  | q + 1 => if q ≠ p ∧ set / 2 ^ q % 2 = 1 then cput (cpo X p set x q) (p * 4 + q) x else cpo X p set x q
def cln (X : VV) (p v r n : Nat) : VV := pt X (5 + 8 * p + 1) (v * 4 + r) (X (5 + 8 * p + 1) (v * 4 + r) ||| 2 ^ n)
def csy (X : VV) (p r c : Nat) : VV := pt X (5 + 8 * p + 2) r (X (5 + 8 * p + 2) r ||| 2 ^ c)
def cev (X : VV) (p a b c d : Nat) : VV := pt (pt (pt (pt X (5 + 8 * p + 7) 0 a) (5 + 8 * p + 7) 1 b) (5 + 8 * p + 7) 2 c) (5 + 8 * p + 7) 3 d
def cps (X : VV) (p : Nat) : Nat := if X (5 + 8 * p) 0 = 0 then 2 ^ p else X 3 (X (5 + 8 * p) 0)
def cen (X : VV) (p : Nat) : VV := pt (pt (pt (pt (pt X (5 + 8 * p) 0 (X (5 + 8 * p) 5)) (5 + 8 * p) 5 0) (5 + 8 * p) 4 0) (5 + 8 * p) 7 0) (5 + 8 * p) 8 0
def cSend (X : VV) (p x : Nat) : Int32 × VV :=
  if ¬ X (5 + 8 * p) 4 = 0 then (-2, X) else if 4 ≤ X (5 + 8 * p) 7 then (-3, X) else
  (nI (X (5 + 8 * p) 7 + 1), cpo (cln (pt (pt (pt X (5 + 8 * p) 7 (X (5 + 8 * p) 7 + 1)) (5 + 8 * p + 3) (X (5 + 8 * p) 0 * 4 + X (5 + 8 * p) 7) x) (5 + 8 * p + 4) (X (5 + 8 * p) 0 * 4 + X (5 + 8 * p) 7) (wc (X (5 + 8 * p) 8) p 0)) p (X (5 + 8 * p) 0) p (X (5 + 8 * p) 7 + 1)) p (cps X p) (X (5 + 8 * p) 0 * 4 + X (5 + 8 * p) 7) 4)
def cChange (X : VV) (p set : Nat) : Int32 × VV :=
  if ¬ (1 ≤ set ∧ set ≤ 15 ∧ set / 2 ^ p % 2 = 1) then (-2, X) else if 15 ≤ X (5 + 8 * p) 1 then (-3, X) else
  (nI (X (5 + 8 * p) 1 + 1), cpo (csy (pt (pt (pt (pt (pt (pt (pt X (5 + 8 * p) 1 (X (5 + 8 * p) 1 + 1)) (5 + 8 * p) 2 set) (5 + 8 * p) 4 1) (5 + 8 * p) 3 1) (5 + 8 * p) 5 0) (5 + 8 * p + 5) (X (5 + 8 * p) 1 + 1) (X (5 + 8 * p) 0)) (5 + 8 * p + 6) (X (5 + 8 * p) 1 + 1) (wc (X (5 + 8 * p) 8) p (X (5 + 8 * p) 7))) p p (X (5 + 8 * p) 1 + 1)) p set (64 + (X (5 + 8 * p) 1 + 1)) 4)
def cfm (X : VV) (set : Nat) : Prop := ∀ q, q < 4 → set / 2 ^ q % 2 = 1 → ¬ X (5 + 8 * q) 3 = 0 ∧ set &&& X (5 + 8 * q) 2 = set
def cfo (X : VV) (set n : Nat) : Nat → VV
  | 0 => X
  | q + 1 => if set / 2 ^ q % 2 = 1 then pt (pt (cfo X set n q) 4 (n * 4 + q) (cfo X set n q (5 + 8 * q) 1)) (5 + 8 * q) 3 0 else cfo X set n q
def crn (X : VV) (q v r : Nat) : Nat → VV
  | 0 => X
  | n + 1 => cln (crn X q v r n) q v r (n + 1)
def crl (X : VV) (q v cut : Nat) : Nat → VV
  | 0 => X
  | r + 1 => crn (crl X q v cut r) q v r (cnt cut r)
def crs (X : VV) (q p c : Nat) : VV := if X (5 + 8 * p + 5) c = 0 then csy X q p c else crl (csy X q p c) q (X (5 + 8 * p + 5) c) (X (5 + 8 * p + 6) c) 4
def cCarry (X : VV) (p q : Nat) : Int32 × VV :=
  if X (37 + 2 * (p * 4 + q)) 2 ≤ X (37 + 2 * (p * 4 + q)) 1 then (0, X) else
  if X (37 + 2 * (p * 4 + q) + 1) (X (37 + 2 * (p * 4 + q)) 1) < 64 then (1, cln (pt X (37 + 2 * (p * 4 + q)) 1 (X (37 + 2 * (p * 4 + q)) 1 + 1)) q (X (37 + 2 * (p * 4 + q) + 1) (X (37 + 2 * (p * 4 + q)) 1) / 4) p (X (37 + 2 * (p * 4 + q) + 1) (X (37 + 2 * (p * 4 + q)) 1) % 4 + 1))
  else (2, crs (pt X (37 + 2 * (p * 4 + q)) 1 (X (37 + 2 * (p * 4 + q)) 1 + 1)) q p (X (37 + 2 * (p * 4 + q) + 1) (X (37 + 2 * (p * 4 + q)) 1) - 64))
def cTell (X : VV) (p v : Nat) : Int32 × VV :=
  if ¬ (1 ≤ v ∧ v ≤ X 0 4 ∧ X 3 v / 2 ^ p % 2 = 1) then (-2, X) else if v ≤ X (5 + 8 * p) 6 then (-3, X) else if ¬ X 4 (v * 4 + p) = X (5 + 8 * p) 1 then (-4, X) else
  (0, pt (pt X (5 + 8 * p) 6 v) (5 + 8 * p) 5 v)
/-- the message of q that is next at p can be delivered -/
def cdl (X : VV) (p lim q : Nat) : Prop := cnt (X (5 + 8 * p) 8) q < cnt lim q ∧ X (5 + 8 * p + 1) (X (5 + 8 * p) 0 * 4 + q) / 2 ^ (cnt (X (5 + 8 * p) 8) q + 1) % 2 = 1 ∧ ∀ r, r < 4 → cnt (X (5 + 8 * q + 4) (X (5 + 8 * p) 0 * 4 + cnt (X (5 + 8 * p) 8) q)) r ≤ cnt (X (5 + 8 * p) 8) r
def cdv (X : VV) (p q : Nat) : VV := cev (pt X (5 + 8 * p) 8 (wc (X (5 + 8 * p) 8) q (cnt (X (5 + 8 * p) 8) q + 1))) p 1 q (cnt (X (5 + 8 * p) 8) q + 1) (X (5 + 8 * q + 3) (X (5 + 8 * p) 0 * 4 + cnt (X (5 + 8 * p) 8) q))
def cd1 (X : VV) (p lim : Nat) (r : Int32) (X' : VV) : Prop := (r = 1 ∧ ∃ q, q < 4 ∧ cdl X p lim q ∧ (∀ j, j < q → ¬ cdl X p lim j) ∧ X' = cdv X p q) ∨ (r = 0 ∧ (∀ j, j < 4 → ¬ cdl X p lim j) ∧ X' = X)
def crd (X : VV) (p com : Nat) : Prop := ∀ q, q < 4 → com / 2 ^ q % 2 = 1 → X (5 + 8 * p + 2) q / 2 ^ (X 4 (X (5 + 8 * p) 5 * 4 + q)) % 2 = 1
def cco (X : VV) (p com : Nat) : Nat → Nat
  | 0 => 0
  | q + 1 => if com / 2 ^ q % 2 = 1 ∧ X (5 + 8 * q + 5) (X 4 (X (5 + 8 * p) 5 * 4 + q)) = X (5 + 8 * p) 0 then cco X p com q ||| 2 ^ q else cco X p com q
def mx4 (a b : Nat) : Nat := pk4 (fun r => if cnt a r < cnt b r then cnt b r else cnt a r)
def cli (X : VV) (v cs : Nat) : Nat → Nat
  | 0 => 0
  | q + 1 => if cs / 2 ^ q % 2 = 1 then mx4 (cli X v cs q) (X (5 + 8 * q + 6) (X 4 (v * 4 + q))) else cli X v cs q
def cStep (X : VV) (p : Nat) (r : Int32) (X' : VV) : Prop :=
  (X (5 + 8 * p) 4 = 0 ∧ cd1 X p 67372036 r X') ∨
  (¬ X (5 + 8 * p) 4 = 0 ∧ X (5 + 8 * p) 5 = 0 ∧ r = 0 ∧ X' = X) ∨
  (¬ X (5 + 8 * p) 4 = 0 ∧ ¬ X (5 + 8 * p) 5 = 0 ∧ ¬ crd X p (X 3 (X (5 + 8 * p) 5) &&& cps X p) ∧ r = 0 ∧ X' = X) ∨
  (¬ X (5 + 8 * p) 4 = 0 ∧ ¬ X (5 + 8 * p) 5 = 0 ∧ crd X p (X 3 (X (5 + 8 * p) 5) &&& cps X p) ∧
    ((r = 1 ∧ cd1 X p (cli X (X (5 + 8 * p) 5) (cco X p (X 3 (X (5 + 8 * p) 5) &&& cps X p) 4) 4) 1 X') ∨
     (cd1 X p (cli X (X (5 + 8 * p) 5) (cco X p (X 3 (X (5 + 8 * p) 5) &&& cps X p) 4) 4) 0 X ∧
       ((¬ X (5 + 8 * p) 8 = cli X (X (5 + 8 * p) 5) (cco X p (X 3 (X (5 + 8 * p) 5) &&& cps X p) 4) 4 ∧ r = 0 ∧ X' = X) ∨
        (X (5 + 8 * p) 8 = cli X (X (5 + 8 * p) 5) (cco X p (X 3 (X (5 + 8 * p) 5) &&& cps X p) 4) 4 ∧ r = 2 ∧ X' = cen (cev X p 2 (X (5 + 8 * p) 5) (X 3 (X (5 + 8 * p) 5)) (cco X p (X 3 (X (5 + 8 * p) 5) &&& cps X p) 4)) p)))))
-- the reference
def rpo (Y : VV) (p set x : Nat) : Nat → VV
  | 0 => Y
  | q + 1 => if q ≠ p ∧ ¬ set / 2 ^ q % 2 = 0 then pt (pt (rpo Y p set x q) 88 (80 * (4 * p + q) + rpo Y p set x q 89 (4 * p + q)) x) 89 (4 * p + q) (rpo Y p set x q 89 (4 * p + q) + 1) else rpo Y p set x q
def rps (Y : VV) (p : Nat) : Nat := if Y 70 p = 0 then 2 ^ p else Y 80 (Y 70 p)
def rvc (Y : VV) (p m : Nat) : Nat → VV
  | 0 => Y
  | r + 1 => pt (rvc Y p m r) 83 (4 * m + r) (if r = p then 0 else Y 78 (4 * p + r))
def rSend (Y : VV) (p x : Nat) : Int32 × VV :=
  if ¬ Y 74 p = 0 then (-2, Y) else if Y 77 p = 4 then (-3, Y) else
  (nI (Y 77 p + 1), rpo (pt (rvc (pt (pt Y 77 p (Y 77 p + 1)) 82 (16 * Y 70 p + 4 * p + Y 77 p) x) p (16 * Y 70 p + 4 * p + Y 77 p) 4) 84 (256 * p + (16 * Y 70 p + 4 * p + Y 77 p)) 1) p (rps Y p) (16 * Y 70 p + 4 * p + Y 77 p) 4)
def rct (Y : VV) (p s : Nat) : Nat → VV
  | 0 => Y
  | r + 1 => pt (rct Y p s r) 86 (4 * s + r) (if r = p then Y 77 p else Y 78 (4 * p + r))
def rChange (Y : VV) (p set : Nat) : Int32 × VV :=
  if ¬ (1 ≤ set ∧ set ≤ 15 ∧ ¬ set / 2 ^ p % 2 = 0) then (-2, Y) else if Y 71 p = 15 then (-3, Y) else
  (nI (Y 71 p + 1), rpo (pt (rct (pt (pt (pt (pt (pt (pt Y 71 p (Y 71 p + 1)) 72 p set) 74 p 1) 75 p 0) 73 p 1) 85 (16 * p + (Y 71 p + 1)) (Y 70 p)) p (16 * p + (Y 71 p + 1)) 4) 87 (64 * p + (16 * p + (Y 71 p + 1))) 1) p set (256 + (16 * p + (Y 71 p + 1))) 4)
def rfm (Y : VV) (set : Nat) : Prop := ∀ q, q < 4 → set / 2 ^ q % 2 = 1 → ¬ Y 73 q = 0 ∧ set &&& Y 72 q = set
def rfo (Y : VV) (set n : Nat) : Nat → VV
  | 0 => Y
  | q + 1 => if ¬ set / 2 ^ q % 2 = 0 then pt (pt (rfo Y set n q) 81 (4 * n + q) (rfo Y set n q 71 q)) 73 q 0 else rfo Y set n q
def rTell (Y : VV) (p v : Nat) : Int32 × VV :=
  if ¬ (1 ≤ v ∧ v ≤ Y 69 10 ∧ ¬ Y 80 v / 2 ^ p % 2 = 0) then (-2, Y) else if v ≤ Y 76 p then (-3, Y) else if ¬ Y 81 (4 * v + p) = Y 71 p then (-4, Y) else
  (0, pt (pt Y 76 p v) 75 p v)
def rsh (Y : VV) (i : Nat) : Nat → VV
  | 0 => Y
  | k + 1 => pt (rsh Y i k) 88 (80 * i + k) (rsh Y i k 88 (80 * i + k + 1))
def rkn (Y : VV) (b : Nat) : Nat → VV
  | 0 => Y
  | n + 1 => pt (rkn Y b n) 84 (b + n) 1
def rkl (Y : VV) (q s : Nat) : Nat → VV
  | 0 => Y
  | r + 1 => rkn (rkl Y q s r) (256 * q + 16 * Y 85 s + 4 * r) (Y 86 (4 * s + r))
def rCarry (Y : VV) (p q : Nat) : Int32 × VV :=
  if Y 89 (4 * p + q) = 0 then (0, Y) else
  if Y 88 (80 * (4 * p + q)) < 256 then (1, pt (rsh (pt Y 89 (4 * p + q) (Y 89 (4 * p + q) - 1)) (4 * p + q) (Y 89 (4 * p + q) - 1)) 84 (256 * q + Y 88 (80 * (4 * p + q))) 1)
  else if Y 85 (Y 88 (80 * (4 * p + q)) - 256) = 0 then (2, pt (rsh (pt Y 89 (4 * p + q) (Y 89 (4 * p + q) - 1)) (4 * p + q) (Y 89 (4 * p + q) - 1)) 87 (64 * q + (Y 88 (80 * (4 * p + q)) - 256)) 1)
  else (2, rkl (pt (rsh (pt Y 89 (4 * p + q) (Y 89 (4 * p + q) - 1)) (4 * p + q) (Y 89 (4 * p + q) - 1)) 87 (64 * q + (Y 88 (80 * (4 * p + q)) - 256)) 1) q (Y 88 (80 * (4 * p + q)) - 256) 4)
def rl0 (Y : VV) (x : Nat) : Nat → VV
  | 0 => Y
  | r + 1 => pt (rl0 Y x r) 90 r x
def rlr (U : VV) (s : Nat) : Nat → VV
  | 0 => U
  | r + 1 => if rlr U s r 90 r < U 86 (4 * s + r) then pt (rlr U s r) 90 r (U 86 (4 * s + r)) else rlr U s r
def rlq (Y : VV) (p v both : Nat) : Nat → VV
  | 0 => Y
  | q + 1 => if both / 2 ^ q % 2 = 0 ∨ ¬ Y 85 (16 * q + Y 81 (4 * v + q)) = Y 70 p ∨ (Y 70 p = 0 ∧ ¬ q = p) then rlq Y p v both q else rlr (pt (rlq Y p v both q) 69 22 (rlq Y p v both q 69 22 ||| 2 ^ q)) (16 * q + Y 81 (4 * v + q)) 4
def rrd (Y : VV) (p v both : Nat) : Prop := ∀ q, q < 4 → ¬ both / 2 ^ q % 2 = 0 → ¬ Y 87 (64 * p + (16 * q + Y 81 (4 * v + q))) = 0
/-- the same but for what limits() writes -/
def rsm (Y Y' : VV) : Prop := ∀ c k, c ≠ 90 → ¬ (c = 69 ∧ k = 22) → Y' c k = Y c k
def rdl (Y : VV) (p q : Nat) : Prop := Y 78 (4 * p + q) < Y 90 q ∧ ¬ Y 84 (256 * p + (16 * Y 70 p + 4 * q + Y 78 (4 * p + q))) = 0 ∧ ∀ r, r < 4 → ¬ r = q → Y 83 (4 * (16 * Y 70 p + 4 * q + Y 78 (4 * p + q)) + r) ≤ Y 78 (4 * p + r)
def rev (Y : VV) (p a b c d : Nat) : VV := pt (pt (pt (pt Y 79 (4 * p) a) 79 (4 * p + 1) b) 79 (4 * p + 2) c) 79 (4 * p + 3) d
def rdv (Y : VV) (p q : Nat) : VV := rev (pt Y 78 (4 * p + q) (Y 78 (4 * p + q) + 1)) p 1 q (Y 78 (4 * p + q) + 1) (Y 82 (16 * Y 70 p + 4 * q + Y 78 (4 * p + q)))
/-- limits(p): what it answers, what it leaves -/
def rlim (Y : VV) (p : Nat) (h : Nat) (Y' : VV) : Prop :=
  (h = 1 ∧ Y 74 p = 0 ∧ Y' = rl0 (pt Y 69 22 0) 4 4) ∨
  (h = 0 ∧ ¬ Y 74 p = 0 ∧ Y 75 p = 0 ∧ rsm Y Y') ∨
  (h = 0 ∧ ¬ Y 74 p = 0 ∧ ¬ Y 75 p = 0 ∧ ¬ rrd Y p (Y 75 p) (Y 80 (Y 75 p) &&& rps Y p) ∧ rsm Y Y') ∨
  (h = 2 ∧ ¬ Y 74 p = 0 ∧ ¬ Y 75 p = 0 ∧ rrd Y p (Y 75 p) (Y 80 (Y 75 p) &&& rps Y p) ∧ Y' = rlq (rl0 (pt Y 69 22 0) 0 4) p (Y 75 p) (Y 80 (Y 75 p) &&& rps Y p) 4)
def rz4 (Y : VV) (p : Nat) : Nat → VV
  | 0 => Y
  | r + 1 => pt (rz4 Y p r) 78 (4 * p + r) 0
def rStep (Y : VV) (p : Nat) (r : Int32) (Y' : VV) : Prop := ∃ (h : Nat) (Z : VV), rlim Y p h Z ∧
  ((h = 0 ∧ r = 0 ∧ Y' = Z) ∨
   (¬ h = 0 ∧ (∃ q, q < 4 ∧ rdl Z p q ∧ (∀ j, j < q → ¬ rdl Z p j) ∧ r = 1 ∧ Y' = rdv Z p q)) ∨
   (h = 1 ∧ (∀ j, j < 4 → ¬ rdl Z p j) ∧ r = 0 ∧ Y' = Z) ∨
   (h = 2 ∧ (∀ j, j < 4 → ¬ rdl Z p j) ∧ (¬ ∀ j, j < 4 → Z 78 (4 * p + j) = Z 90 j) ∧ r = 0 ∧ Y' = Z) ∨
   (h = 2 ∧ (∀ j, j < 4 → ¬ rdl Z p j) ∧ (∀ j, j < 4 → Z 78 (4 * p + j) = Z 90 j) ∧ r = 2 ∧ Y' = rz4 (pt (pt (pt (rev (pt Z 70 p (Z 75 p)) p 2 (Z 75 p) (Z 80 (Z 75 p)) (Z 69 22)) 75 p 0) 74 p 0) 77 p 0) p 4))
def cForm (X : VV) (set : Nat) (r : Int32) (X' : VV) : Prop :=
  (¬ (1 ≤ set ∧ set ≤ 15) ∧ r = -2 ∧ X' = X) ∨ ((1 ≤ set ∧ set ≤ 15) ∧ 15 ≤ X 0 4 ∧ r = -3 ∧ X' = X) ∨ ((1 ≤ set ∧ set ≤ 15) ∧ X 0 4 < 15 ∧ ¬ cfm X set ∧ r = -4 ∧ X' = X) ∨
  ((1 ≤ set ∧ set ≤ 15) ∧ X 0 4 < 15 ∧ cfm X set ∧ r = nI (X 0 4 + 1) ∧ X' = cfo (pt (pt X 0 4 (X 0 4 + 1)) 3 (X 0 4 + 1) set) set (X 0 4 + 1) 4)
def rForm (Y : VV) (set : Nat) (r : Int32) (Y' : VV) : Prop :=
  (¬ (1 ≤ set ∧ set ≤ 15) ∧ r = -2 ∧ Y' = Y) ∨ ((1 ≤ set ∧ set ≤ 15) ∧ Y 69 10 = 15 ∧ r = -3 ∧ Y' = Y) ∨ ((1 ≤ set ∧ set ≤ 15) ∧ ¬ Y 69 10 = 15 ∧ ¬ rfm Y set ∧ r = -4 ∧ Y' = Y) ∨
  ((1 ≤ set ∧ set ≤ 15) ∧ ¬ Y 69 10 = 15 ∧ rfm Y set ∧ r = nI (Y 69 10 + 1) ∧ Y' = rfo (pt (pt Y 69 10 (Y 69 10 + 1)) 80 (Y 69 10 + 1) set) set (Y 69 10 + 1) 4)
