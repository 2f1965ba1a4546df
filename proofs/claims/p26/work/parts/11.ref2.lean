def zSum (f : Nat → Int32) : Nat → Int32
  | 0 => 0
  | n + 1 => zSum f n + f n
def zOr (f : Nat → Int32) : Nat → Int32
  | 0 => 0
  | n + 1 => zOr f n ||| f n
def zLast (p : Nat → Prop) [DecidablePred p] (f : Nat → Int32) (x : Int32) : Nat → Int32
  | 0 => x
  | n + 1 => if p n then f n else zLast p f x n
theorem zinc (i : Nat) : nI i + Int32.ofInt 1 = nI (i + 1) := nI_1 i
theorem zSum_t {p : Nat → Prop} [DecidablePred p] {f g : Nat → Int32} {i : Nat} (h : p i) : zSum (fun c => if p c then f c else g c) i + f i = zSum (fun c => if p c then f c else g c) (i + 1) := by
  show _ = zSum _ i + (if p i then f i else g i)
  rw [if_pos h]
theorem zSum_f {p : Nat → Prop} [DecidablePred p] {f g : Nat → Int32} {i : Nat} (h : ¬ p i) : zSum (fun c => if p c then f c else g c) i + g i = zSum (fun c => if p c then f c else g c) (i + 1) := by
  show _ = zSum _ i + (if p i then f i else g i)
  rw [if_neg h]
theorem zOr_t {p : Nat → Prop} [DecidablePred p] {f g : Nat → Int32} {i : Nat} (h : p i) : zOr (fun c => if p c then f c else g c) i ||| f i = zOr (fun c => if p c then f c else g c) (i + 1) := by
  show _ = zOr _ i ||| (if p i then f i else g i)
  rw [if_pos h]
theorem zOr_f {p : Nat → Prop} [DecidablePred p] {f g : Nat → Int32} {i : Nat} (h : ¬ p i) : zOr (fun c => if p c then f c else g c) i ||| g i = zOr (fun c => if p c then f c else g c) (i + 1) := by
  show _ = zOr _ i ||| (if p i then f i else g i)
  rw [if_neg h]
def zbit (i : Nat) : Int32 := (1 : Int32) <<< (nI i &&& 31)
def zLd (s : Nat → Int32) (n : Nat) (v : Int32) (k : Nat) : Int32 := zSum (fun c => if zInV s c v then gd s c k else 0) n
def zLs (s : Nat → Int32) (n : Nat) (v : Int32) : Int32 := zOr (fun c => if zInV s c v then zbit c else 0) n
def zGoal (s : Nat → Int32) (n iv : Nat) : Int32 := zLast (fun c => zInV s c (nI iv)) (fun c => gd s c 0) (if vd s iv 2 = 0 then -1000004 else vd s iv 3) n
def zHr (s : Nat → Int32) (n : Nat) : Int32 := zOr (fun c => if zHere s c then zbit c else 0) n
def zPt (s : Nat → Int32) (n : Nat) (w : Int32) : Int32 := zOr (fun c => if (¬ gd s c 6 = 5 ∧ gd s c 9 = w) then zbit c else 0) n
def zHl (s : Nat → Int32) (n : Nat) : Int32 := zOr (fun c => if (zHere s c ∧ gd s c 4 < s 5 + gd s c 0 * s 0) then zbit c else 0) n
abbrev zCan (s : Nat → Int32) (n c iv : Nat) : Prop := (gd s c 6 = 0 ∧ vd s iv 2 = 0 ∧ (zGoal s n iv < 0 ∨ zGoal s n iv = gd s c 0)) ∧ zLd s n (nI iv) 1 + gd s c 1 ≤ vd s iv 0 ∧ zLd s n (nI iv) 2 + gd s c 2 ≤ vd s iv 1
theorem zLast_t {p : Nat → Prop} [DecidablePred p] {f : Nat → Int32} {x : Int32} {i : Nat} (h : p i) : f i = zLast p f x (i + 1) := (if_pos h).symm
theorem zLast_f {p : Nat → Prop} [DecidablePred p] {f : Nat → Int32} {x : Int32} {i : Nat} (h : ¬ p i) : zLast p f x i = zLast p f x (i + 1) := (if_neg h).symm
