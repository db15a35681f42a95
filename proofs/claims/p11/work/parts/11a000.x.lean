/-! CONTRACTS, the class: queues -/
/-- a queue's seven numbers: the writer's place, limit, mark; the reader's; around -/
abbrev QT : Type := Int32 × Int32 × Int32 × Int32 × Int32 × Int32 × Int32
