def k_hind (u : mU) (B a : Nat) (d g : Int32) (t : Nat) (p : Nat) : Int32 := if 0 ≤ k_shared u B g (nI p) d then (if u a t < 0 then (if cntOf (u a) (nI p) < k_room u B (nI p) - u a (4 + p) then 0 else 4) else 3) else 2
def k_nearOn (u : mU) (B a : Nat) (d g : Int32) (t p : Nat) : Int32 := k_near u B g (nI t) (nI p) (k_shared u B g (nI p) d) (cntOf (u a) (nI p))
def k_out (u : mU) (B a : Nat) (d g : Int32) (t p : Nat) : Int32 := if k_hind u B a d g t p = 0 then (if k_noticed u B (k_nearOn u B a d g t p) = 0 then 0 else 1) else k_hind u B a d g t p
section OUT
variable {sh : mS} {u : mU} {v : mV} {S r a B t p : Nat} {d g : Int32}
theorem st_hind (h : sSh sh S r a) (hc : cSh sh B) (ht : t < 4) (hp : p < 5) : f_X7_hindrance (Rep sh u v) S B d g (nI t) (nI p) = some (k_hind u B a d g t p) := by
  unfold f_X7_hindrance k_hind
  rw [Rep_gC h.1, Option.bind_some, col_shared hc, Option.bind_some, st_holder h ht, Option.bind_some, st_many h, Option.bind_some, st_room h hc hp, Option.bind_some]
  by_cases c1 : 0 ≤ k_shared u B g (nI p) d
  · rw [if_pos c1, if_pos c1]
    by_cases c2 : u a t < 0
    · rw [if_pos c2, if_pos c2]
      by_cases c3 : cntOf (u a) (nI p) < k_room u B (nI p) - u a (4 + p)
      · rw [if_pos c3, if_pos c3]
      · rw [if_neg c3, if_neg c3]
    · rw [if_neg c2, if_neg c2]
  · rw [if_neg c1, if_neg c1]
theorem st_nearOn (h : sSh sh S r a) (hc : cSh sh B) : f_X7_nearOn (Rep sh u v) S B d g (nI t) (nI p) = some (k_nearOn u B a d g t p) := by
  unfold f_X7_nearOn k_nearOn
  rw [Rep_gC h.1, Option.bind_some, col_shared hc, Option.bind_some, st_many h, Option.bind_some, col_near hc, Option.bind_some]
theorem st_out (h : sSh sh S r a) (hc : cSh sh B) (ht : t < 4) (hp : p < 5) : f_X7_outcome (Rep sh u v) S B d g (nI t) (nI p) = some (k_out u B a d g t p) := by
  unfold f_X7_outcome k_out
  rw [Rep_gC h.1, Option.bind_some, st_hind h hc ht hp, Option.bind_some, st_nearOn h hc, Option.bind_some, col_noticed hc, Option.bind_some]
  by_cases c1 : k_hind u B a d g t p = 0
  · rw [if_pos c1, if_pos c1]
    by_cases c2 : k_noticed u B (k_nearOn u B a d g t p) = 0
    · rw [if_pos c2, if_pos c2]
    · rw [if_neg c2, if_neg c2]
  · rw [if_neg c1, if_neg c1]
end OUT
