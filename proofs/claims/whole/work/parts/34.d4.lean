/-! decode rows -/
theorem d_MD_transform_409 : decode b_MD_transform 409 = .ok (.iload 6, 2) := by decide +kernel
theorem d_MD_transform_411 : decode b_MD_transform 411 = .ok (.iconst 3, 1) := by decide +kernel
theorem d_MD_transform_412 : decode b_MD_transform 412 = .ok (.iadd, 1) := by decide +kernel
theorem d_MD_transform_413 : decode b_MD_transform 413 = .ok (.iconst 0, 1) := by decide +kernel
theorem d_MD_transform_414 : decode b_MD_transform 414 = .ok (.iastore, 1) := by decide +kernel
theorem d_MD_transform_415 : decode b_MD_transform 415 = .ok (.aload_n 0, 1) := by decide +kernel
theorem d_MD_transform_416 : decode b_MD_transform 416 = .ok (.getfield 31, 3) := by decide +kernel
theorem d_MD_transform_419 : decode b_MD_transform 419 = .ok (.iload_n 1, 1) := by decide +kernel
theorem d_MD_transform_420 : decode b_MD_transform 420 = .ok (.dup2, 1) := by decide +kernel
theorem d_MD_transform_421 : decode b_MD_transform 421 = .ok (.iaload, 1) := by decide +kernel
theorem d_MD_transform_422 : decode b_MD_transform 422 = .ok (.iconst 1, 1) := by decide +kernel
theorem d_MD_transform_423 : decode b_MD_transform 423 = .ok (.iadd, 1) := by decide +kernel
theorem d_MD_transform_424 : decode b_MD_transform 424 = .ok (.iastore, 1) := by decide +kernel
theorem d_MD_transform_425 : decode b_MD_transform 425 = .ok (.iconst 0, 1) := by decide +kernel
theorem d_MD_transform_426 : decode b_MD_transform 426 = .ok (.istore 6, 2) := by decide +kernel
theorem d_MD_transform_428 : decode b_MD_transform 428 = .ok (.iload 6, 2) := by decide +kernel
theorem d_MD_transform_430 : decode b_MD_transform 430 = .ok (.aload_n 0, 1) := by decide +kernel
theorem d_MD_transform_431 : decode b_MD_transform 431 = .ok (.getfield 191, 3) := by decide +kernel
theorem d_MD_transform_434 : decode b_MD_transform 434 = .ok (.if_icmp .ge 28, 3) := by decide +kernel
theorem d_MD_transform_437 : decode b_MD_transform 437 = .ok (.aload_n 0, 1) := by decide +kernel
theorem d_MD_transform_438 : decode b_MD_transform 438 = .ok (.getfield 28, 3) := by decide +kernel
theorem d_MD_transform_441 : decode b_MD_transform 441 = .ok (.bipush 120, 2) := by decide +kernel
theorem d_MD_transform_443 : decode b_MD_transform 443 = .ok (.iload_n 1, 1) := by decide +kernel
theorem d_MD_transform_444 : decode b_MD_transform 444 = .ok (.imul, 1) := by decide +kernel
theorem d_MD_transform_445 : decode b_MD_transform 445 = .ok (.iload 6, 2) := by decide +kernel
theorem d_MD_transform_447 : decode b_MD_transform 447 = .ok (.iadd, 1) := by decide +kernel
theorem d_MD_transform_448 : decode b_MD_transform 448 = .ok (.aload_n 0, 1) := by decide +kernel
theorem d_MD_transform_449 : decode b_MD_transform 449 = .ok (.getfield 72, 3) := by decide +kernel
theorem d_MD_transform_452 : decode b_MD_transform 452 = .ok (.iload 6, 2) := by decide +kernel
theorem d_MD_transform_454 : decode b_MD_transform 454 = .ok (.iaload, 1) := by decide +kernel
theorem d_MD_transform_455 : decode b_MD_transform 455 = .ok (.iastore, 1) := by decide +kernel
theorem d_MD_transform_456 : decode b_MD_transform 456 = .ok (.iinc 6 1, 3) := by decide +kernel
theorem d_MD_transform_459 : decode b_MD_transform 459 = .ok (.goto (-31), 3) := by decide +kernel
theorem d_MD_transform_462 : decode b_MD_transform 462 = .ok (.aload_n 0, 1) := by decide +kernel
theorem d_MD_transform_463 : decode b_MD_transform 463 = .ok (.getfield 25, 3) := by decide +kernel
theorem d_MD_transform_466 : decode b_MD_transform 466 = .ok (.iload_n 1, 1) := by decide +kernel
theorem d_MD_transform_467 : decode b_MD_transform 467 = .ok (.aload_n 0, 1) := by decide +kernel
theorem d_MD_transform_468 : decode b_MD_transform 468 = .ok (.getfield 191, 3) := by decide +kernel
theorem d_MD_transform_471 : decode b_MD_transform 471 = .ok (.iastore, 1) := by decide +kernel
theorem d_MD_transform_472 : decode b_MD_transform 472 = .ok (.iconst 1, 1) := by decide +kernel
theorem d_MD_transform_473 : decode b_MD_transform 473 = .ok (.ireturn, 1) := by decide +kernel
