/-- setting a limit: place, limit, mark -/
def liP (p x : Int32) : Int32 := if x < p then x else p
