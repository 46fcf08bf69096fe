theorem g1 : plainName "java/lang/Math" = true := by decide +kernel
theorem g2 : plainName "EchoFair$World" = true := by decide +kernel
