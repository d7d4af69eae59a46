/-- it names a row that stands outside the short library, so that rounds are read over the whole one from the start: else each slip in a name would read all parts anew. It says nothing. -/
theorem zz_wide : True := by
  have _z := @Jvm.Free.Cc.Seg.bool
  trivial
