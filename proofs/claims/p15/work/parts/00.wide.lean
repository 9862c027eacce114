/-! the whole library is wanted (exceptions that are caught): a name of it, so that a round is read over it from its first part on -/
theorem zwide0 : True := (fun _ => trivial) @Stand.thenCaughtThrough
