/-! porters: the model's sum over sets of lifts is the class's product, at every number of lifts, chance and set of lifts in time -/
def qT (n c q : Int) : Int := sumR (fun B => if srI (fun L => hasB B L && hasB q L) n 0 = -1 then 0 else poP c B n) (2 ^ n.toNat)
def qS (c q k : Int) (s : Int × Int) : Int × Int := if hasB q k = true then (s.1 * c, s.2 * 10) else s
def qR (n c q : Int) : Int × Int := itR (qS c q) (1, 1) n
def qOk (n c q : Int) : Bool := decide (qT n c q / gz (qT n c q) (pw10 n) = ((qR n c q).2 - (qR n c q).1) / gz ((qR n c q).2 - (qR n c q).1) (qR n c q).2) && decide (pw10 n / gz (qT n c q) (pw10 n) = (qR n c q).2 / gz ((qR n c q).2 - (qR n c q).1) (qR n c q).2)
theorem po_fin : ∀ n : Fin 5, ∀ c : Fin 11, ∀ q : Fin 16, qOk (n.val : Int) (c.val : Int) (q.val : Int) = true := by decide +kernel
