/-! what isSame and the law gather -/
def chP2 (PP : Nat → Int32) (f : Nat) : Nat → Int32 := z_fold (fun k a => a + (if PP k = nI f then 1 else 0)) 0
theorem chP2_0 (PP : Nat → Int32) (f : Nat) : chP2 PP f 0 = 0 := rfl
theorem chP2_succ (PP : Nat → Int32) (f k : Nat) : chP2 PP f (k + 1) = chP2 PP f k + (if PP k = nI f then 1 else 0) := rfl
def suS (BB : Nat → Nat → Bool) : Nat → Int32 := z_fold (fun f a => a + vaS BB f 12) 0
theorem suS_0 (BB : Nat → Nat → Bool) : suS BB 0 = 0 := rfl
theorem suS_succ (BB : Nat → Nat → Bool) (f : Nat) : suS BB (f + 1) = suS BB f + vaS BB f 12 := rfl
def wtI (BB : Nat → Nat → Bool) (f : Nat) (a : Nat → Int32) : Nat → Nat → Int32 := z_fold (fun b w => upd w (10 + b) (w (10 + b) + z_b (BB f b))) a
theorem wtI_0 (BB : Nat → Nat → Bool) (f : Nat) (a : Nat → Int32) : wtI BB f a 0 = a := rfl
theorem wtI_succ (BB : Nat → Nat → Bool) (f : Nat) (a : Nat → Int32) (b : Nat) : wtI BB f a (b + 1) = upd (wtI BB f a b) (10 + b) (wtI BB f a b (10 + b) + z_b (BB f b)) := rfl
def wtO (MM : Nat → Nat) (BB : Nat → Nat → Bool) : Nat → Nat → Int32 := z_fold (fun f w => upd (wtI BB f w 12) (MM f) (wtI BB f w 12 (MM f) + 1)) (fun _ => 0)
theorem wtO_0 (MM : Nat → Nat) (BB : Nat → Nat → Bool) : wtO MM BB 0 = fun _ => 0 := rfl
theorem wtO_succ (MM : Nat → Nat) (BB : Nat → Nat → Bool) (f : Nat) : wtO MM BB (f + 1) = upd (wtI BB f (wtO MM BB f) 12) (MM f) (wtI BB f (wtO MM BB f) 12 (MM f) + 1) := rfl
def inS (TB : Nat → Nat → Bool) (v : Nat) : Nat → Int32 := z_fold (fun f a => a + z_b (TB f v)) 0
theorem inS_0 (TB : Nat → Nat → Bool) (v : Nat) : inS TB v 0 = 0 := rfl
theorem inS_succ (TB : Nat → Nat → Bool) (v f : Nat) : inS TB v (f + 1) = inS TB v f + z_b (TB f v) := rfl
def awP (MM : Nat → Nat) (BB MB AB : Nat → Nat → Bool) (v : Nat) : Nat → Int32 := z_fold (fun f a => a + (if bnS MM BB MB AB f v 12 then 0 else 1)) 0
theorem awP_0 (MM : Nat → Nat) (BB MB AB : Nat → Nat → Bool) (v : Nat) : awP MM BB MB AB v 0 = 0 := rfl
theorem awP_succ (MM : Nat → Nat) (BB MB AB : Nat → Nat → Bool) (v f : Nat) : awP MM BB MB AB v (f + 1) = awP MM BB MB AB v f + (if bnS MM BB MB AB f v 12 then 0 else 1) := rfl
def vbS (AB : Nat → Nat → Bool) (v : Nat) (a : Int32) : Nat → Int32 := z_fold (fun b a => a + z_b (AB v b)) a
theorem vbS_0 (AB : Nat → Nat → Bool) (v : Nat) (a : Int32) : vbS AB v a 0 = a := rfl
theorem vbS_succ (AB : Nat → Nat → Bool) (v : Nat) (a : Int32) (b : Nat) : vbS AB v a (b + 1) = vbS AB v a b + z_b (AB v b) := rfl
/-- told where it was banned -/
def gnI (W : Nat → Nat → Bool) (bn : Nat → Nat → Bool) (f : Nat) (a : Int32) : Nat → Int32 := z_fold (fun v a => a + z_b (W f v && bn f v)) a
theorem gnI_0 (W bn : Nat → Nat → Bool) (f : Nat) (a : Int32) : gnI W bn f a 0 = a := rfl
theorem gnI_succ (W bn : Nat → Nat → Bool) (f : Nat) (a : Int32) (v : Nat) : gnI W bn f a (v + 1) = gnI W bn f a v + z_b (W f v && bn f v) := rfl
def gnO (W bn : Nat → Nat → Bool) : Nat → Int32 := z_fold (fun f a => gnI W bn f a 6) 0
theorem gnO_0 (W bn : Nat → Nat → Bool) : gnO W bn 0 = 0 := rfl
theorem gnO_succ (W bn : Nat → Nat → Bool) (f : Nat) : gnO W bn (f + 1) = gnI W bn f (gnO W bn f) 6 := rfl
def wbT (fb : Nat → Int32) (n : Nat) : Nat → Int32 := z_fold (fun b a => a + pc (wbS fb (nI b) n)) 0
theorem wbT_0 (fb : Nat → Int32) (n : Nat) : wbT fb n 0 = 0 := rfl
theorem wbT_succ (fb : Nat → Int32) (n b : Nat) : wbT fb n (b + 1) = wbT fb n b + pc (wbS fb (nI b) n) := rfl
def wmT (fm : Nat → Int32) (n : Nat) : Nat → Int32 := z_fold (fun m a => a + pc (wmS fm (nI m) n)) 0
theorem wmT_0 (fm : Nat → Int32) (n : Nat) : wmT fm n 0 = 0 := rfl
theorem wmT_succ (fm : Nat → Int32) (n m : Nat) : wmT fm n (m + 1) = wmT fm n m + pc (wmS fm (nI m) n) := rfl
def byF (lt : Nat → Int32) : Nat → Int32 := z_fold (fun f a => a + cntS lt ((1 : Int32) <<< (nI f &&& 31)) 6) 0
theorem byF_0 (lt : Nat → Int32) : byF lt 0 = 0 := rfl
theorem byF_succ (lt : Nat → Int32) (f : Nat) : byF lt (f + 1) = byF lt f + cntS lt ((1 : Int32) <<< (nI f &&& 31)) 6 := rfl
theorem allM_0 (lt : Nat → Int32) : allM lt 0 = 0 := rfl
/-- whether it comes over a pass -/
def coS (op A : Nat → Bool) : Nat → Bool := z_fold (fun w a => if op w then (a || A w) else a) false
theorem coS_0 (op A : Nat → Bool) : coS op A 0 = false := rfl
theorem coS_succ (op A : Nat → Bool) (w : Nat) : coS op A (w + 1) = if op w then (coS op A w || A w) else coS op A w := rfl
theorem coS_true {op A : Nat → Bool} {w : Nat} : ∀ k, w < k → op w = true → A w = true → coS op A k = true
  | 0, h, _, _ => absurd h (Nat.not_lt_zero _)
  | k + 1, h, h1, h2 => by
    rw [coS_succ]
    by_cases e : w = k
    · subst e; rw [if_pos h1, h2, Bool.or_true]
    · have := coS_true k (show w < k by omega) h1 h2
      rw [this]; split <;> rfl
