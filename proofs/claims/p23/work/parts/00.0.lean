/-- names of the wide library, so that a round is read over it from its first part on -/
theorem w_ide : True := by
  have h1 := @Jvm.Stand.arrayOver_alikeB
  have h2 := @Jvm.Free.StrIndexOf.S1.met
  exact True.intro
