/-- this part's one name stands in the rest of the library: so every round reads the whole of it from the first part on -/
theorem zWide : True := by
  have h := @Jvm.Stand.multianewarray2F
  trivial
