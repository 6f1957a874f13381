/-! WHAT THE JDK'S METHODS ON TEXTS OWE (proved in later parts) -/
def zSame (n : Nat) (K : zKT) (P : zPT) (I : zIT) (L : zLT) (v : Value) : zPost := fun r n' K' P' I' L' => r = .inl (some v) ∧ n' = n ∧ K' = K ∧ P' = P ∧ I' = I ∧ L' = L
def zPB (n : Nat) (K : zKT) (P : zPT) (I : zIT) (L : zLT) (b va : Nat) (v : Option Value) (t : List Int32) : zPost := fun r n' K' P' I' L' => r = .inl v ∧ ∃ va', zBd n' K' P' I' b va' t ∧ zKeep n K P I L b va va' n' K' P' I' L'
def zAll (X : zX) (n : Nat) (a : Nat) : Prop := X.1 ≤ a ∧ a < n
/-- StringBuilder.append(int) -/
def zJ206 (l : Launch) (X : zX) : Prop := ∀ (d n : Nat) (K : zKT) (P : zPT) (I : zIT) (L : zLT) (b va : Nat) (t : List Int32) (x : Int32), zBd n K P I b va t → t.length ≤ 60 → 0 ≤ x → x < 1000 → zC l X (d + 11) 8 400 206 [.ref b, .int x] n K P I L (zPB n K P I L b va (some (.ref b)) (t ++ zdg x))
/-- StringBuilder.append(char) -/
def zJ205 (l : Launch) (X : zX) : Prop := ∀ (d n : Nat) (K : zKT) (P : zPT) (I : zIT) (L : zLT) (b va : Nat) (t : List Int32) (x : Int32), zBd n K P I b va t → t.length ≤ 60 → 0 ≤ x → x < 128 → zC l X (d + 11) 8 400 205 [.ref b, .int x] n K P I L (zPB n K P I L b va (some (.ref b)) (t ++ [x]))
/-- StringBuilder.setLength(0) -/
def zJ209 (l : Launch) (X : zX) : Prop := ∀ (d n : Nat) (K : zKT) (P : zPT) (I : zIT) (L : zLT) (b va : Nat) (t : List Int32), zBd n K P I b va t → t.length ≤ 63 → zC l X (d + 11) 0 0 209 [.ref b, .int 0] n K P I L (zPB n K P I L b va none [])
/-- StringBuilder.length() -/
def zJ210 (l : Launch) (X : zX) : Prop := ∀ (d n : Nat) (K : zKT) (P : zPT) (I : zIT) (L : zLT) (b va : Nat) (t : List Int32), zBd n K P I b va t → zC l X (d + 11) 0 0 210 [.ref b] n K P I L (zSame n K P I L (.int (Int32.ofNat t.length)))
/-- StringBuilder.charAt(int) -/
def zJ208 (l : Launch) (X : zX) : Prop := ∀ (d n : Nat) (K : zKT) (P : zPT) (I : zIT) (L : zLT) (b va : Nat) (t : List Int32) (i x : Int32), zBd n K P I b va t → t.length ≤ 63 → 0 ≤ i → t[i.toNatClampNeg]? = some x → zC l X (d + 11) 0 0 208 [.ref b, .int i] n K P I L (zSame n K P I L (.int x))
/-- String.length() -/
def zJ196 (l : Launch) (X : zX) : Prop := ∀ (d n : Nat) (K : zKT) (P : zPT) (I : zIT) (L : zLT) (a : Nat) (t : List Int32), zStr (fun _ => True) K P I a t → zC l X (d + 11) 0 0 196 [.ref a] n K P I L (zSame n K P I L (.int (Int32.ofNat t.length)))
/-- String.charAt(int) -/
def zJ197 (l : Launch) (X : zX) : Prop := ∀ (d n : Nat) (K : zKT) (P : zPT) (I : zIT) (L : zLT) (a : Nat) (t : List Int32) (i x : Int32), zStr (fun _ => True) K P I a t → t.length ≤ 1000 → 0 ≤ i → t[i.toNatClampNeg]? = some x → zC l X (d + 11) 0 0 197 [.ref a, .int i] n K P I L (zSame n K P I L (.int x))
/-- a text is built: everything that was there stays, a String of it is new -/
def zMade (n : Nat) (K : zKT) (P : zPT) (I : zIT) (L : zLT) (n' : Nat) (K' : zKT) (P' : zPT) (I' : zIT) (L' : zLT) (a : Nat) (t : List Int32) : Prop :=
  n ≤ n' ∧ zStr (fun q => n ≤ q ∧ q < n') K' P' I' a t ∧ ∀ q, q < n → K' q = K q ∧ P' q = P q ∧ I' q = I q ∧ L' q = L q
/-- the law's two texts -/
def zJtxt (l : Launch) (X : zX) (pc i : Nat) (a b : String) : Prop := ∀ (d bc bs n : Nat) (K : zKT) (P : zPT) (I : zIT) (L : zLT) (ls : List (Nat × Value)) (o : Nat) (x : Int32) (Post : zPost), zlk ls i = some (.int x) → 0 ≤ x → x < 13 → (∀ (c : Nat) (s : String × Nat × String), zstr[c]? = some s → zStr (fun q => q < n) K P I (X.2.2.2 c) (zch s.2.2)) →
  (∀ (n' : Nat) (K' : zKT) (P' : zPT) (I' : zIT) (L' : zLT) (q : Nat), zMade n K P I L n' K' P' I' L' q (zch a ++ zdg x ++ zch b) → zV l X (d + 12) bc bs 176 352 ls [.ref q, .ref o] n' K' P' I' L' Post) →
  zV l X (d + 12) (bc + 8) (bs + 400) 176 pc ls [.ref o] n K P I L Post
def zJDK (l : Launch) (X : zX) : Prop := zJ206 l X ∧ zJ205 l X ∧ zJ209 l X ∧ zJ210 l X ∧ zJ208 l X ∧ zJ196 l X ∧ zJ197 l X ∧ zJtxt l X 297 3 "wait;valve " " 3" ∧ zJtxt l X 326 2 "pour 0 1/h;draw " " 2"
