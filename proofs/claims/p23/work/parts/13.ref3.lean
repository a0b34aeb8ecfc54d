/-! the reference: what is needed, where copies are placed -/
theorem or_any {b : Bool} {x y : Bool} (h : x = y) : (b || x) = (b || y) := by rw [h]
theorem lnd_take : ∀ (n : Nat) {l : List (Nat × Value)}, lnd l → lnd (l.take n)
  | 0, _, _ => trivial
  | _ + 1, [], _ => trivial
  | n + 1, (j, v) :: l, h => ⟨fun q hq => h.1 q (List.mem_of_mem_take hq), lnd_take n h.2⟩
theorem tri.take {g : GG} {d : MD} {bk bn : Nat} {P : PO} {M : Mem} {pc : Nat} {ls : List (Nat × Value)} {st : List Value} (n : Nat) (h : tri g d bk bn P M pc (ls.take n) st) : tri g d bk bn P M pc ls st :=
  fun p e R s m args below meth c H locs cells slots lsA hb hc hS hr hl => h p e R s m args below meth c H locs cells slots lsA hb hc hS hr (hl.sub (fun _ hq => List.mem_of_mem_take hq) (lnd_take n hl.2.2))
section REF3
variable (g : GG) {A : Nat → Nat → Nat} {σ ρ : ST} {x : XT} {M : Mem}
end REF3
