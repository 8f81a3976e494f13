section EvDefs
/-! THE EVALUATOR. A value is a number: tag (v % 8) and payload (v / 8): 1 an int that is known (payload < 2^32), 2 an int that has a name (payload: its place in the list of names), 3 an int of which nothing is known, 4 a long that is known, 5 a reference (0: null; k + 1: cell k), 6 a thing that was there before (payload: which), 0 nothing.
A row of values is one number, 72 bits each. A cell: its kind (16 bits), its length (16 bits), its row. The heap: a tree of cells. -/
noncomputable def eF (x : Nat) (k : Nat → Bool) : Bool := @Nat.rec (fun _ => Bool) (k Nat.zero) (fun m _ => k (Nat.succ m)) x
noncomputable def eIf (c : Bool) (t f : Bool) : Bool := @Bool.rec (fun _ => Bool) f t c
noncomputable def eSl (A j : Nat) : Nat := Nat.mod (Nat.shiftRight A (Nat.mul 72 j)) 4722366482869645213696
noncomputable def eBl (A j n X : Nat) : Nat := Nat.lor (Nat.mod A (Nat.pow 2 (Nat.mul 72 j))) (Nat.shiftLeft (Nat.lor (Nat.mod X (Nat.pow 2 (Nat.mul 72 n))) (Nat.shiftLeft (Nat.shiftRight A (Nat.mul 72 (Nat.add j n))) (Nat.mul 72 n))) (Nat.mul 72 j))
noncomputable def eRep (n v : Nat) : Nat := Nat.mul v (Nat.div (Nat.sub (Nat.pow 2 (Nat.mul 72 n)) 1) 4722366482869645213695)
noncomputable def eTg (v : Nat) : Nat := Nat.mod v 8
noncomputable def ePl (v : Nat) : Nat := Nat.div v 8
noncomputable def eCi (n : Nat) : Nat := Nat.add (Nat.mul 8 n) 1
noncomputable def eBi (n : Nat) : Nat := Nat.mod (Nat.add n 2147483648) 4294967296
noncomputable def eKi (c : Nat) : Nat := Nat.mod c 65536
noncomputable def eLe (c : Nat) : Nat := Nat.mod (Nat.shiftRight c 16) 65536
noncomputable def eDa (c : Nat) : Nat := Nat.shiftRight c 32
noncomputable def eMk (ki n d : Nat) : Nat := Nat.add ki (Nat.add (Nat.mul 65536 n) (Nat.mul 4294967296 d))
noncomputable def eSd (c d : Nat) : Nat := Nat.add (Nat.mod c 4294967296) (Nat.mul 4294967296 d)
abbrev evEnv : Type := List (Nat × Nat)
abbrev evG : Type := Lean.RArray Nat × Nat × evEnv × Nat × Nat
abbrev evR : Type := Nat → Nat → List Nat → evG → Bool
abbrev evC : Type := Nat → List Nat → evG → (Nat → evG → Bool) → Bool
abbrev evK : Type := Nat → evG → Bool
abbrev evH : Type := evR → evC → evK → Nat → Nat → List Nat → evG → Bool
noncomputable def eSetK (a : Lean.RArray Nat) (n v : Nat) (k : Lean.RArray Nat → Bool) : Bool :=
  @Lean.RArray.rec Nat (fun _ => (Lean.RArray Nat → Bool) → Bool) (fun _ k => k (.leaf v)) (fun p l r ihl ihr k => @Bool.rec (fun _ => Bool) (ihl (fun l' => k (.branch p l' r))) (ihr (fun r' => k (.branch p l r'))) (Nat.ble p n)) a k
noncomputable def eEnv (env : evEnv) (i : Nat) : Nat × Nat := @List.rec (Nat × Nat) (fun _ => Nat → Nat × Nat) (fun _ => (0, 4294967295)) (fun q _ ih i => @Nat.rec (fun _ => Nat × Nat) q (fun m _ => ih m) i) env i
noncomputable def eIv (env : evEnv) (v : Nat) : Nat × Nat := cond (Nat.beq (eTg v) 1) (eBi (ePl v), eBi (ePl v)) (cond (Nat.beq (eTg v) 2) (eEnv env (ePl v)) (0, 4294967295))
noncomputable def eNrm (env : evEnv) (v : Nat) : Nat := cond (Nat.beq (eTg v) 2) (cond (Nat.beq (eEnv env (ePl v)).1 (eEnv env (ePl v)).2) (eCi (eBi (eEnv env (ePl v)).1)) v) v
noncomputable def eIsI (v : Nat) : Bool := cond (Nat.ble 1 (eTg v)) (Nat.ble (eTg v) 3) false
noncomputable def eIsA (v : Nat) : Bool := cond (Nat.ble 5 (eTg v)) (Nat.ble (eTg v) 6) false
noncomputable def eRef (env : evEnv) (v lo hi : Nat) : evEnv := cond (Nat.beq (eTg v) 2) (env.set (ePl v) (lo, hi)) env
/-- a < b: what is known decides, or both ways are gone -/
noncomputable def eLt (env : evEnv) (a b : Nat) (kt kf : evEnv → Bool) : Bool :=
  cond (Nat.blt (eIv env a).2 (eIv env b).1) (kt env)
    (cond (Nat.ble (eIv env b).2 (eIv env a).1) (kf env)
      (cond (Nat.beq (eIv env b).1 (eIv env b).2) (cond (kt (eRef env a (eIv env a).1 (Nat.sub (eIv env b).1 1))) (kf (eRef env a (eIv env b).1 (eIv env a).2)) false)
        (cond (Nat.beq (eIv env a).1 (eIv env a).2) (cond (kt (eRef env b (Nat.add (eIv env a).1 1) (eIv env b).2)) (kf (eRef env b (eIv env b).1 (eIv env a).1)) false)
          (cond (kt env) (kf env) false))))
/-- a is the number c, or not -/
noncomputable def eEqc (env : evEnv) (a c : Nat) (kt kf : evEnv → Bool) : Bool :=
  cond (Nat.blt (eIv env a).2 c) (kf env) (cond (Nat.blt c (eIv env a).1) (kf env)
    (cond (Nat.beq (eIv env a).1 (eIv env a).2) (kt env)
      (cond (kt (eRef env a c c)) (cond (Nat.beq c (eIv env a).1) (kf (eRef env a (Nat.add c 1) (eIv env a).2)) (cond (Nat.beq c (eIv env a).2) (kf (eRef env a (eIv env a).1 (Nat.sub c 1))) (cond (Nat.beq (eTg a) 2) (cond (kf (eRef env a (eIv env a).1 (Nat.sub c 1))) (kf (eRef env a (Nat.add c 1) (eIv env a).2)) false) (kf env)))) false)))
/-- an index that lies within j and j + n: one way for each -/
noncomputable def eSpi (i : Nat) (k : Nat → evEnv → Bool) (n : Nat) : Nat → evEnv → Bool := @Nat.rec (fun _ => Nat → evEnv → Bool) (fun j env => k j env) (fun _ ih j env => eEqc env i (Nat.add j 2147483648) (fun env => k j env) (fun env => ih (Nat.add j 1) env)) n
noncomputable def eEq (env : evEnv) (a b : Nat) (kt kf : evEnv → Bool) : Bool :=
  cond (Nat.beq (eIv env b).1 (eIv env b).2) (eEqc env a (eIv env b).1 kt kf)
    (cond (Nat.beq (eIv env a).1 (eIv env a).2) (eEqc env b (eIv env a).1 kt kf) (cond (kt env) (kf env) false))
noncomputable def eCmp (o : ClassFile.Cond) (env : evEnv) (a b : Nat) (kt kf : evEnv → Bool) : Bool := match o with
  | .eq => eEq env a b kt kf
  | .ne => eEq env a b kf kt
  | .lt => eLt env a b kt kf
  | .ge => eLt env a b kf kt
  | .gt => eLt env b a kt kf
  | .le => eLt env b a kf kt
noncomputable def eTo (pc : Nat) (off : Int) (k : Nat → Bool) : Bool := match Int.add (Int.ofNat pc) off with
  | .ofNat t => k t
  | .negSucc _ => false
/-- the handlers -/
noncomputable def hBad : evH := fun _ _ _ _ _ _ _ => false
noncomputable def hPush (v len : Nat) : evH := fun r _ _ pc L st g => r (Nat.add pc len) L (v :: st) g
noncomputable def hLoad (p : Nat → Bool) (j len : Nat) : evH := fun r _ _ pc L st g => cond (p (eSl L j)) (r (Nat.add pc len) L (eNrm g.2.2.1 (eSl L j) :: st) g) false
noncomputable def hStore (p : Nat → Bool) (nL j len : Nat) : evH := fun r _ _ pc L st g => match st with
  | v :: rest => cond (p v) (cond (Nat.blt j nL) (cond (Nat.beq (eTg (eSl L (Nat.sub j 1))) 4) false (r (Nat.add pc len) (eBl L j 1 v) rest g)) false) false
  | _ => false
noncomputable def hStore2 (nL j len : Nat) : evH := fun r _ _ pc L st g => match st with
  | v :: rest => cond (Nat.beq (eTg v) 4) (cond (Nat.blt (Nat.add j 1) nL) (cond (Nat.beq (eTg (eSl L (Nat.sub j 1))) 4) false (r (Nat.add pc len) (eBl (eBl L j 1 v) (Nat.add j 1) 1 0) rest g)) false) false
  | _ => false
noncomputable def eWrap (n : Nat) : Nat := Nat.mod n 4294967296
noncomputable def eN32 (c : Int) : Nat := match c with
  | .ofNat n => eWrap n
  | .negSucc n => Nat.sub 4294967295 (eWrap n)
/-- a new name -/
noncomputable def eNm (env : evEnv) (k : Nat → evEnv → Bool) (env' : evEnv) : Bool := cond (Nat.blt env.length 1000000) (k (Nat.add (Nat.mul 8 env.length) 2) env') false
/-- ints: the sum, by what is known of both -/
noncomputable def eAdd (env : evEnv) (a b : Nat) (k : Nat → evEnv → Bool) : Bool :=
  cond (cond (Nat.beq (eTg a) 1) (Nat.beq (eTg b) 1) false) (k (eCi (eWrap (Nat.add (ePl a) (ePl b)))) env)
    (cond (cond (Nat.ble 2147483648 (Nat.add (eIv env a).1 (eIv env b).1)) (Nat.blt (Nat.add (eIv env a).2 (eIv env b).2) 6442450944) false)
      (eNm env k (env ++ [(Nat.sub (Nat.add (eIv env a).1 (eIv env b).1) 2147483648, Nat.sub (Nat.add (eIv env a).2 (eIv env b).2) 2147483648)]))
      (k 3 env))
noncomputable def eSub (env : evEnv) (a b : Nat) (k : Nat → evEnv → Bool) : Bool :=
  cond (cond (Nat.beq (eTg a) 1) (Nat.beq (eTg b) 1) false) (k (eCi (eWrap (Nat.add (ePl a) (Nat.sub 4294967296 (ePl b))))) env)
    (cond (cond (Nat.ble (eIv env b).2 (Nat.add (eIv env a).1 2147483648)) (Nat.blt (Nat.add (eIv env a).2 2147483648) (Nat.add (eIv env b).1 4294967296)) false)
      (eNm env k (env ++ [(Nat.sub (Nat.add (eIv env a).1 2147483648) (eIv env b).2, Nat.sub (Nat.add (eIv env a).2 2147483648) (eIv env b).1)]))
      (k 3 env))
noncomputable def eMul (env : evEnv) (a b : Nat) (k : Nat → evEnv → Bool) : Bool :=
  cond (cond (Nat.beq (eTg a) 1) (Nat.beq (eTg b) 1) false) (k (eCi (eWrap (Nat.mul (ePl a) (ePl b)))) env)
    (cond (cond (Nat.ble 2147483648 (eIv env a).1) (cond (Nat.ble 2147483648 (eIv env b).1) (Nat.blt (Nat.mul (Nat.sub (eIv env a).2 2147483648) (Nat.sub (eIv env b).2 2147483648)) 2147483648) false) false)
      (eNm env k (env ++ [(Nat.add 2147483648 (Nat.mul (Nat.sub (eIv env a).1 2147483648) (Nat.sub (eIv env b).1 2147483648)), Nat.add 2147483648 (Nat.mul (Nat.sub (eIv env a).2 2147483648) (Nat.sub (eIv env b).2 2147483648)))]))
      (k 3 env))
noncomputable def eAnd (env : evEnv) (a b : Nat) (k : Nat → evEnv → Bool) : Bool :=
  cond (cond (Nat.beq (eTg a) 1) (Nat.beq (eTg b) 1) false) (k (eCi (Nat.land (ePl a) (ePl b))) env)
    (cond (cond (Nat.beq (eTg b) 1) (Nat.blt (ePl b) 2147483648) false)
      (eNm env k (env ++ [(2147483648, Nat.add 2147483648 (ePl b))]))
      (k 3 env))
/-- ints of which only known ones give a known one -/
noncomputable def eOp (f : Nat → Nat → Nat) (env : evEnv) (a b : Nat) (k : Nat → evEnv → Bool) : Bool :=
  cond (cond (Nat.beq (eTg a) 1) (Nat.beq (eTg b) 1) false) (k (eCi (f (ePl a) (ePl b))) env) (k 3 env)
noncomputable def fOr (a b : Nat) : Nat := Nat.lor a b
noncomputable def fXor (a b : Nat) : Nat := Nat.xor a b
/-- by the machine's own operation -/
noncomputable def fI (f : Int32 → Int32 → Int32) (a b : Nat) : Nat := (f (nI a) (nI b)).toBitVec.toNat
noncomputable def eShl (env : evEnv) (a b : Nat) (k : Nat → evEnv → Bool) : Bool := cond (cond (Nat.beq (eTg a) 1) (cond (Nat.beq (eTg b) 1) (Nat.blt (ePl b) 32) false) false) (k (eCi (eWrap (Nat.mul (ePl a) (Nat.pow 2 (ePl b))))) env) (eOp (fI (fun x y => x <<< (y &&& 31))) env a b k)
noncomputable def eUsh (env : evEnv) (a b : Nat) (k : Nat → evEnv → Bool) : Bool := cond (cond (Nat.beq (eTg a) 1) (cond (Nat.beq (eTg b) 1) (Nat.blt (ePl b) 32) false) false) (k (eCi (Nat.div (ePl a) (Nat.pow 2 (ePl b)))) env) (eOp (fI (fun x y => (x.toUInt32 >>> (y.toUInt32 &&& Int32.toUInt32 31)).toInt32)) env a b k)
/-- a shift of 0 is 0, by whatever -/
noncomputable def eShr (env : evEnv) (a b : Nat) (k : Nat → evEnv → Bool) : Bool := cond (Nat.beq a 1) (k 1 env) (cond (cond (Nat.beq (eTg a) 1) (cond (Nat.beq (eTg b) 1) (cond (Nat.blt (ePl b) 32) (Nat.blt (ePl a) 2147483648) false) false) false) (k (eCi (Nat.div (ePl a) (Nat.pow 2 (ePl b)))) env) (eOp (fI (fun x y => x >>> (y &&& 31))) env a b k))
noncomputable def hOp2 (f : evEnv → Nat → Nat → (Nat → evEnv → Bool) → Bool) : evH := fun r _ _ pc L st g => match st with
  | b :: a :: rest => cond (eIsI a) (cond (eIsI b) (f g.2.2.1 a b (fun v env => r (Nat.add pc 1) L (v :: rest) (g.1, g.2.1, env, g.2.2.2))) false) false
  | _ => false
noncomputable def ePos (f f2 : Nat → Nat → Nat) (env : evEnv) (a b : Nat) (k : Nat → evEnv → Bool) : Bool :=
  cond (cond (Nat.beq (eTg a) 1) (cond (Nat.beq (eTg b) 1) (Nat.blt 0 (ePl b)) false) false) (cond (cond (Nat.blt (ePl a) 2147483648) (Nat.blt (ePl b) 2147483648) false) (k (eCi (f (ePl a) (ePl b))) env) (k (eCi (f2 (ePl a) (ePl b))) env)) false
noncomputable def fDiv (a b : Nat) : Nat := Nat.div a b
noncomputable def fRem (a b : Nat) : Nat := Nat.mod a b
noncomputable def hIinc (nL j : Nat) (c : Int) : evH := fun r _ _ pc L st g => cond (Nat.blt j nL) (cond (cond (eIsI (eSl L j)) (cond (Nat.beq (eTg (eSl L (Nat.sub j 1))) 4) false true) false) (eAdd g.2.2.1 (eNrm g.2.2.1 (eSl L j)) (eCi (eN32 c)) (fun v env => r (Nat.add pc 3) (eBl L j 1 v) st (g.1, g.2.1, env, g.2.2.2))) false) false
noncomputable def hGoto (off : Int) : evH := fun r _ _ pc L st g => eTo pc off (fun t => r t L st g)
noncomputable def hIf (o : ClassFile.Cond) (off : Int) : evH := fun r _ _ pc L st g => match st with
  | a :: rest => cond (eIsI a) (eTo pc off (fun t => eCmp o g.2.2.1 a 1 (fun env => r t L rest (g.1, g.2.1, env, g.2.2.2)) (fun env => r (Nat.add pc 3) L rest (g.1, g.2.1, env, g.2.2.2)))) false
  | _ => false
noncomputable def hIcmp (o : ClassFile.Cond) (off : Int) : evH := fun r _ _ pc L st g => match st with
  | b :: a :: rest => cond (eIsI a) (cond (eIsI b) (eTo pc off (fun t => eCmp o g.2.2.1 a b (fun env => r t L rest (g.1, g.2.1, env, g.2.2.2)) (fun env => r (Nat.add pc 3) L rest (g.1, g.2.1, env, g.2.2.2)))) false) false
  | _ => false
noncomputable def hDup : evH := fun r _ _ pc L st g => match st with
  | v :: rest => cond (Nat.beq (eTg v) 4) false (r (Nat.add pc 1) L (v :: v :: rest) g)
  | _ => false
noncomputable def hPop : evH := fun r _ _ pc L st g => match st with
  | v :: rest => cond (Nat.beq (eTg v) 4) false (r (Nat.add pc 1) L rest g)
  | _ => false
noncomputable def hDup2 : evH := fun r _ _ pc L st g => match st with
  | v :: w :: rest => cond (Nat.beq (eTg v) 4) false (cond (Nat.beq (eTg w) 4) false (r (Nat.add pc 1) L (v :: w :: v :: w :: rest) g))
  | _ => false
/-- a reference to a cell of kind ki, that is there -/
noncomputable def eAt (g : evG) (o ki : Nat) (k : Nat → Nat → Bool) : Bool :=
  cond (Nat.beq (eTg o) 5) (@Nat.rec (fun _ => Bool) false (fun q _ => cond (Nat.blt q g.2.1) (eF (Lean.RArray.get g.1 q) (fun c => cond (Nat.beq (eKi c) ki) (k q c) false)) false) (ePl o)) false
/-- a reference to a cell of a kind that p takes -/
noncomputable def eAtP (g : evG) (o : Nat) (p : Nat → Bool) (k : Nat → Nat → Bool) : Bool :=
  cond (Nat.beq (eTg o) 5) (@Nat.rec (fun _ => Bool) false (fun q _ => cond (Nat.blt q g.2.1) (eF (Lean.RArray.get g.1 q) (fun c => cond (p (eKi c)) (k q c) false)) false) (ePl o)) false
noncomputable def hGet (ci k : Nat) : evH := fun r _ _ pc L st g => match st with
  | o :: rest => eAt g o ci (fun _ c => r (Nat.add pc 3) L (eNrm g.2.2.1 (eSl (eDa c) k) :: rest) g)
  | _ => false
noncomputable def eFit (ty v : Nat) : Bool := match ty with
  | 0 => eIsI v
  | 1 => cond (Nat.beq v 1) true (Nat.beq v 9)
  | 2 => Nat.beq (eTg v) 4
  | _ => eIsA v
noncomputable def hPut (ci k ty : Nat) : evH := fun r _ _ pc L st g => match st with
  | v :: o :: rest => cond (eFit ty v) (eAt g o ci (fun q c => eF (eSd c (eBl (eDa c) k 1 v)) (fun c' => eSetK g.1 q c' (fun hp => r (Nat.add pc 3) L rest (hp, g.2))))) false
  | _ => false
/-- a new cell -/
noncomputable def eNew (g : evG) (c n : Nat) (k : Nat → evG → Bool) : Bool := cond (Nat.blt g.2.1 1024) (cond (Nat.ble 1 g.2.2.2.1) (cond (Nat.ble n g.2.2.2.2) (eF c (fun c => eSetK g.1 g.2.1 c (fun hp => eF (Nat.add g.2.1 1) (fun hn => eF (Nat.sub g.2.2.2.1 1) (fun nc => eF (Nat.sub g.2.2.2.2 n) (fun ns => k (Nat.add (Nat.mul 8 hn) 5) (hp, hn, g.2.2.1, nc, ns))))))) false) false) false
noncomputable def hNewa (ki d len : Nat) : evH := fun r _ _ pc L st g => match st with
  | n :: rest => cond (Nat.beq (eTg n) 1) (cond (Nat.blt (ePl n) 65536) (eNew g (eMk ki (ePl n) (eRep (ePl n) d)) (ePl n) (fun v g => r (Nat.add pc len) L (v :: rest) g)) false) false
  | _ => false
noncomputable def hNew (ci n d : Nat) : evH := fun r _ _ pc L st g => eNew g (eMk ci n d) n (fun v g => r (Nat.add pc 3) L (v :: st) g)
/-- all n values from j on are v -/
noncomputable def eAll (A j n v : Nat) : Bool := @Nat.rec (fun _ => Nat → Bool) (fun _ => true) (fun _ ih j => cond (Nat.beq (eSl A j) v) (ih (Nat.add j 1)) false) n j
noncomputable def eInR (env : evEnv) (i n : Nat) (k : Nat → Nat → Bool) : Bool := cond (Nat.ble 2147483648 (eIv env i).1) (cond (Nat.blt (Nat.sub (eIv env i).2 2147483648) n) (cond (Nat.ble (eIv env i).1 (eIv env i).2) (k (Nat.sub (eIv env i).1 2147483648) (Nat.sub (eIv env i).2 (eIv env i).1)) false) false) false
noncomputable def hAld (p : Nat → Bool) : evH := fun r _ _ pc L st g => match st with
  | i :: o :: rest => cond (eIsI i) (eAtP g o p (fun _ c => eInR g.2.2.1 i (eLe c) (fun j n => cond (eAll (eDa c) (Nat.add j 1) n (eSl (eDa c) j)) (r (Nat.add pc 1) L (eNrm g.2.2.1 (eSl (eDa c) j) :: rest) g) (cond (Nat.beq (eKi c) 64) (r (Nat.add pc 1) L (3 :: rest) g) (eSpi i (fun j env => r (Nat.add pc 1) L (eNrm env (eSl (eDa c) j) :: rest) (g.1, g.2.1, env, g.2.2.2)) n j g.2.2.1))))) false
  | _ => false
noncomputable def eFill (A j n v : Nat) : Nat := @Nat.rec (fun _ => Nat → Nat → Nat) (fun A _ => A) (fun _ ih A j => ih (eBl A j 1 v) (Nat.add j 1)) n A j
/-- what an array of bytes keeps -/
noncomputable def eByte (v : Nat) : Nat := cond (Nat.beq (eTg v) 1) (cond (Nat.blt (Nat.mod (ePl v) 256) 128) (eCi (Nat.mod (ePl v) 256)) (eCi (Nat.add (Nat.mod (ePl v) 256) 4294967040))) 3
/-- what an array of that kind keeps of a value; 0: it can't be stored -/
noncomputable def eKeep (g : evG) (ki v : Nat) : Nat := cond (Nat.beq ki 64) (cond (eIsI v) v 0) (cond (Nat.beq ki 65) (cond (Nat.beq (eTg v) 4) v 0) (cond (Nat.beq ki 66) (cond (eIsI v) (eByte v) 0) (cond (Nat.beq ki 67) (cond (cond (Nat.beq v 1) true (Nat.beq v 9)) v 0) (cond (Nat.ble 128 ki) (cond (eAt g v (Nat.sub ki 128) (fun _ _ => true)) v 0) 0))))
noncomputable def hAst (p : Nat → Bool) : evH := fun r _ _ pc L st g => match st with
  | v :: i :: o :: rest => cond (eIsI i) (eAtP g o p (fun q c => eInR g.2.2.1 i (eLe c) (fun j n => cond (Nat.beq (eKeep g (eKi c) v) 0) false (cond (cond (Nat.beq n 0) true (Nat.beq (eKi c) 64)) (eF (eSd c (cond (Nat.beq n 0) (eBl (eDa c) j 1 (eKeep g (eKi c) v)) (eFill (eDa c) j (Nat.add n 1) 3))) (fun c' => eSetK g.1 q c' (fun hp => r (Nat.add pc 1) L rest (hp, g.2)))) false)))) false
  | _ => false
noncomputable def hLen : evH := fun r _ _ pc L st g => match st with
  | o :: rest => cond (Nat.beq o 14) (r (Nat.add pc 1) L (eCi 152 :: rest) g) (eAtP g o (fun k => Nat.ble 64 k) (fun _ c => r (Nat.add pc 1) L (eCi (eLe c) :: rest) g))
  | _ => false
noncomputable def eTake (n : Nat) (st acc : List Nat) (k : List Nat → List Nat → Bool) : Bool :=
  @Nat.rec (fun _ => List Nat → List Nat → Bool) (fun st acc => k acc st) (fun _ ih st acc => @List.rec Nat (fun _ => Bool) false (fun v r _ => ih r (v :: acc)) st) n st acc
noncomputable def eCat (v : Nat) : Nat := cond (Nat.beq (eTg v) 4) 2 1
noncomputable def ePack (vs : List Nat) : Nat → Nat → Nat := @List.rec Nat (fun _ => Nat → Nat → Nat) (fun _ L => L) (fun v _ ih j L => ih (Nat.add j (eCat v)) (eBl L j 1 v)) vs
noncomputable def eSum (vs : List Nat) : Nat := @List.rec Nat (fun _ => Nat) 0 (fun v _ ih => Nat.add (eCat v) ih) vs
/-- the receiver: of kind ki (13 and on: no cell) -/
noncomputable def eRcv (g : evG) (ki : Nat) (vs : List Nat) : Bool := cond (Nat.blt ki 13) (@List.rec Nat (fun _ => Bool) false (fun o _ _ => eAt g o ki (fun _ _ => true)) vs) (cond (Nat.beq ki 17) (@List.rec Nat (fun _ => Bool) false (fun o _ _ => Nat.beq o 6) vs) (Nat.beq ki 64))
/-- a call: n arguments (the receiver among them, of kind ki; 64: none), mi the method, void or not, mc and ms its cells and slots -/
noncomputable def hCall (mi n ki nL : Nat) (vd : Bool) (mc ms : Nat) : evH := fun r c _ pc L st g => eTake n st [] (fun vs rest =>
  cond (cond (Nat.ble (eSum rest) 8) (Nat.ble (eSum vs) nL) false) (cond (eRcv g ki vs) (cond (Nat.ble mc g.2.2.2.1) (cond (Nat.ble ms g.2.2.2.2)
    (c mi vs (g.1, g.2.1, g.2.2.1, mc, ms) (fun v g' => cond (Nat.beq (eTg v) 7) false (eF (Nat.sub g.2.2.2.1 mc) (fun nc => eF (Nat.sub g.2.2.2.2 ms) (fun ns => r (Nat.add pc 3) L (cond vd rest (v :: rest)) (g'.1, g'.2.1, g'.2.2.1, nc, ns)))))) false) false) false) false)
noncomputable def hObj : evH := fun r _ _ pc L st g => match st with
  | o :: rest => cond (Nat.beq (eTg o) 5) (cond (Nat.blt 0 (ePl o)) (cond (Nat.ble (eSum rest) 8) (r (Nat.add pc 3) L rest g) false) false) false
  | _ => false
noncomputable def eRtI (rt : Option FieldType) (v : Nat) : Bool := match rt with
  | some .int => eIsI v
  | some .boolean => cond (Nat.beq v 1) true (Nat.beq v 9)
  | some .byte => cond (Nat.beq (eTg v) 1) (Nat.blt (ePl v) 128) false
  | some .char => cond (Nat.beq (eTg v) 1) (Nat.blt (ePl v) 65536) false
  | _ => false
noncomputable def hRetI (rt : Option FieldType) : evH := fun _ _ k _ _ st g => match st with
  | [v] => cond (eRtI rt v) (k v g) false
  | _ => false
/-- 'throw new E()' begins here: the answer 7 -/
noncomputable def hThr : evH := fun _ _ k _ _ st g => match st with
  | [] => k 7 g
  | _ => false
/-- the law's loop begins here: the answer 7 and the locals -/
noncomputable def hStop : evH := fun _ _ k _ L st g => match st with
  | [] => cond (Nat.beq L 0) false (k (Nat.add (Nat.mul 8 L) 7) g)
  | _ => false
noncomputable def hRetV : evH := fun _ _ k _ _ st g => match st with
  | [] => k 0 g
  | _ => false
noncomputable def hCopy : evH := fun r _ _ pc L st g => match st with
  | n :: dp :: d :: sp :: s :: rest => cond (cond (Nat.beq (eTg n) 1) (Nat.ble (eSum rest) 8) false) (cond (Nat.beq (eTg dp) 1) (cond (Nat.beq (eTg sp) 1) (eAtP g s (fun k => cond (Nat.beq k 64) true (Nat.beq k 65)) (fun _ cs => eAt g d (eKi cs) (fun q cd =>
      cond (Nat.ble (Nat.add (ePl sp) (ePl n)) (eLe cs)) (cond (Nat.ble (Nat.add (ePl dp) (ePl n)) (eLe cd)) (eF (eSd cd (eBl (eDa cd) (ePl dp) (ePl n) (Nat.shiftRight (eDa cs) (Nat.mul 72 (ePl sp))))) (fun c' => eSetK g.1 q c' (fun hp => r (Nat.add pc 3) L rest (hp, g.2)))) false) false))) false) false) false
  | _ => false
noncomputable def hMin : evH := fun r _ _ pc L st g => match st with
  | y :: x :: rest => cond (cond (eIsI x) (cond (eIsI y) (Nat.ble (eSum rest) 8) false) false) (eLt g.2.2.1 y x (fun env => r (Nat.add pc 3) L (y :: rest) (g.1, g.2.1, env, g.2.2.2)) (fun env => r (Nat.add pc 3) L (x :: rest) (g.1, g.2.1, env, g.2.2.2))) false
  | _ => false
noncomputable def hI2l : evH := fun r _ _ pc L st g => match st with
  | a :: rest => cond (Nat.beq (eTg a) 1) (r (Nat.add pc 1) L (Nat.add (Nat.mul 8 (cond (Nat.blt (ePl a) 2147483648) (ePl a) (Nat.add (ePl a) 18446744069414584320))) 4 :: rest) g) false
  | _ => false
noncomputable def hL2 (f : Nat → Nat → Nat) : evH := fun r _ _ pc L st g => match st with
  | b :: a :: rest => cond (Nat.beq (eTg a) 4) (cond (Nat.beq (eTg b) 4) (r (Nat.add pc 1) L (Nat.add (Nat.mul 8 (f (ePl a) (ePl b))) 4 :: rest) g) false) false
  | _ => false
noncomputable def fLor (a b : Nat) : Nat := (lN a ||| lN b).toBitVec.toNat
noncomputable def hLsh : evH := fun r _ _ pc L st g => match st with
  | b :: a :: rest => cond (Nat.beq (eTg a) 4) (cond (Nat.beq (eTg b) 1) (r (Nat.add pc 1) L (Nat.add (Nat.mul 8 (lN (ePl a) <<< ((nI (ePl b)).toInt64 &&& 63)).toBitVec.toNat) 4 :: rest) g) false) false
  | _ => false
noncomputable def eW64 (n : Nat) : Nat := Nat.mod n 18446744073709551616
noncomputable def fLadd (a b : Nat) : Nat := eW64 (Nat.add a b)
noncomputable def fLmul (a b : Nat) : Nat := eW64 (Nat.mul a b)
noncomputable def eBl64 (n : Nat) : Nat := eW64 (Nat.add n 9223372036854775808)
noncomputable def hLcmp : evH := fun r _ _ pc L st g => match st with
  | b :: a :: rest => cond (Nat.beq (eTg a) 4) (cond (Nat.beq (eTg b) 4) (r (Nat.add pc 1) L (cond (Nat.blt (eBl64 (ePl a)) (eBl64 (ePl b))) (eCi 4294967295) (cond (Nat.beq (ePl a) (ePl b)) (eCi 0) (eCi 1)) :: rest) g) false) false
  | _ => false
noncomputable def hI2b : evH := fun r _ _ pc L st g => match st with
  | a :: rest => cond (eIsI a) (r (Nat.add pc 1) L (eByte a :: rest) g) false
  | _ => false
noncomputable def hI2c : evH := fun r _ _ pc L st g => match st with
  | a :: rest => cond (Nat.beq (eTg a) 1) (cond (Nat.blt (ePl a) 65536) (r (Nat.add pc 1) L (a :: rest) g) false) false
  | _ => false
/-- a field of the text -/
noncomputable def hGetT (v : Nat) : evH := fun r _ _ pc L st g => match st with
  | o :: rest => cond (Nat.beq o 6) (r (Nat.add pc 3) L (v :: rest) g) false
  | _ => false
/-- a switch: the numbers from c on -/
noncomputable def eSw (r : evR) (pc a : Nat) (d : Int) (L : Nat) (rest : List Nat) (g : evG) (offs : List Int) : Nat → evEnv → Bool :=
  @List.rec Int (fun _ => Nat → evEnv → Bool) (fun _ env => eTo pc d (fun t => r t L rest (g.1, g.2.1, env, g.2.2.2))) (fun o _ ih c env => eEqc env a c (fun env => eTo pc o (fun t => r t L rest (g.1, g.2.1, env, g.2.2.2))) (fun env => ih (Nat.add c 1) env)) offs
noncomputable def hSw (d lo hi : Int) (offs : Array Int) : evH := fun r _ _ pc L st g => match st with
  | a :: rest => cond (eIsI a) (cond (decide (lo + (offs.toList.length : Int) = hi + 1 ∧ -2147483648 ≤ lo ∧ hi < 2147483647)) (eSw r pc a d L rest g offs.toList (Int.toNat (lo + 2147483648)) g.2.2.1) false) false
  | _ => false
/-- a byte of the text, or of an array -/
noncomputable def eNth (l : List Nat) : Nat → Nat := @List.rec Nat (fun _ => Nat → Nat) (fun _ => 0) (fun q _ ih i => @Nat.rec (fun _ => Nat) q (fun m _ => ih m) i) l
/-- an int of the law's script, or of an array -/
noncomputable def hIald (own : Nat) : evH := fun r c k pc L st g => match st with
  | i :: o :: rest => cond (Nat.beq o 38) (cond (Nat.beq own 13) (cond (Nat.beq (eTg i) 1) (cond (Nat.blt (ePl i) 6) (r (Nat.add pc 1) L (eNrm g.2.2.1 (Nat.add (Nat.mul 8 (ePl i)) 2) :: rest) g) false) false) false)
      (cond (cond (Nat.beq o 46) true (Nat.beq o 54)) (cond (Nat.beq (eTg i) 1) (cond (Nat.blt (ePl i) 5) (cond (r (Nat.add pc 1) L (eCi 4294967295 :: rest) g) (cond (r (Nat.add pc 1) L (eCi 0 :: rest) g) (r (Nat.add pc 1) L (eCi 1 :: rest) g) false) false) false) false)
        (hAld (fun k => Nat.beq k 64) r c k pc L (i :: o :: rest) g))
  | _ => false
noncomputable def hBald : evH := fun r c k pc L st g => match st with
  | i :: o :: rest => cond (Nat.beq o 14) (cond (Nat.beq (eTg i) 1) (cond (Nat.blt (ePl i) 152) (r (Nat.add pc 1) L (eCi (eNth eTxN (ePl i)) :: rest) g) false) false) (hAld (fun k => cond (Nat.beq k 66) true (Nat.beq k 67)) r c k pc L (i :: o :: rest) g)
  | _ => false
/-- tables that are looked up: a number for a number, 0 for none -/
noncomputable def eLook (l : List (Nat × Nat)) (x : Nat) : Nat := @List.rec (Nat × Nat) (fun _ => Nat) 0 (fun q _ ih => cond (Nat.beq q.1 x) q.2 ih) l
end EvDefs
