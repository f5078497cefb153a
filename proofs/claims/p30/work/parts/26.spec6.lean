/-! pure words, on: the mean, the checksum -/
/-- a quotient of whole numbers by one that isn't 0 is a number -/
def NN : Prop := ∀ a b : Int32, ¬ b = 0 → vf_n64 (FP.ddiv (FP.i2d a) (FP.i2d b))
def ml (n w : Nat) (f : Nat → Int32) : UInt64 := if ct n f (nI 1) = 0 then 0 else FP.ddiv (FP.i2d (nI (sm n w f))) (FP.i2d (nI (ct n f (nI 1))))
def dx (d : Int64) (x : Int32) : Int64 := d * 31 + x.toInt64
def DG (n w : Nat) (f g : Nat → Int32) : Int64 :=
  fo (fun d k => dx (dx (dx (dx (dx d (st (f k))) (cn (f k))) (g k)) (nI (rl n f k))) (nI (lk n w f (k * 7)))) n 0
    (dx (dx (dx (dx (dx (dx (dx (dx (dx (dx (dx (dx 2237 (nI n)) (nI w)) (nI (ct n f (nI 1)))) (nI (ct n f (nI 2)))) (wa n g)) (hv n g).1) (nI (sm n w f))) (fa n w f).1) (nI (rc n f))) (nI (lr n f))) (bst n f g).1) (fh n w f g 20))
