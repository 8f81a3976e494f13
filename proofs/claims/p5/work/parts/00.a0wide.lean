section CkWide
/-- a name of the whole library -/
theorem ckWide : True := by
  have h := @Jvm.Stand.thenCaughtThrough
  trivial
end CkWide
