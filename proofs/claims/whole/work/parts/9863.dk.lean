theorem dX11_init_388 : decode cX11_init 388 = .ok (.iastore, 1) := by decide +kernel
theorem dX11_init_389 : decode cX11_init 389 = .ok (.dup, 1) := by decide +kernel
theorem dX11_init_390 : decode cX11_init 390 = .ok (.bipush 44, 2) := by decide +kernel
theorem dX11_init_392 : decode cX11_init 392 = .ok (.bipush 32, 2) := by decide +kernel
theorem dX11_init_394 : decode cX11_init 394 = .ok (.iastore, 1) := by decide +kernel
theorem dX11_init_395 : decode cX11_init 395 = .ok (.dup, 1) := by decide +kernel
theorem dX11_init_396 : decode cX11_init 396 = .ok (.bipush 45, 2) := by decide +kernel
theorem dX11_init_398 : decode cX11_init 398 = .ok (.bipush 99, 2) := by decide +kernel
theorem dX11_init_400 : decode cX11_init 400 = .ok (.iastore, 1) := by decide +kernel
theorem dX11_init_401 : decode cX11_init 401 = .ok (.dup, 1) := by decide +kernel
theorem dX11_init_402 : decode cX11_init 402 = .ok (.bipush 46, 2) := by decide +kernel
theorem dX11_init_404 : decode cX11_init 404 = .ok (.bipush 108, 2) := by decide +kernel
theorem dX11_init_406 : decode cX11_init 406 = .ok (.iastore, 1) := by decide +kernel
theorem dX11_init_407 : decode cX11_init 407 = .ok (.dup, 1) := by decide +kernel
theorem dX11_init_408 : decode cX11_init 408 = .ok (.bipush 47, 2) := by decide +kernel
theorem dX11_init_410 : decode cX11_init 410 = .ok (.bipush 97, 2) := by decide +kernel
theorem dX11_init_412 : decode cX11_init 412 = .ok (.iastore, 1) := by decide +kernel
theorem dX11_init_413 : decode cX11_init 413 = .ok (.dup, 1) := by decide +kernel
theorem dX11_init_414 : decode cX11_init 414 = .ok (.bipush 48, 2) := by decide +kernel
theorem dX11_init_416 : decode cX11_init 416 = .ok (.bipush 115, 2) := by decide +kernel
theorem dX11_init_418 : decode cX11_init 418 = .ok (.iastore, 1) := by decide +kernel
theorem dX11_init_419 : decode cX11_init 419 = .ok (.dup, 1) := by decide +kernel
theorem dX11_init_420 : decode cX11_init 420 = .ok (.bipush 49, 2) := by decide +kernel
theorem dX11_init_422 : decode cX11_init 422 = .ok (.bipush 115, 2) := by decide +kernel
theorem dX11_init_424 : decode cX11_init 424 = .ok (.iastore, 1) := by decide +kernel
theorem dX11_init_425 : decode cX11_init 425 = .ok (.dup, 1) := by decide +kernel
theorem dX11_init_426 : decode cX11_init 426 = .ok (.bipush 50, 2) := by decide +kernel
theorem dX11_init_428 : decode cX11_init 428 = .ok (.bipush 32, 2) := by decide +kernel
theorem dX11_init_430 : decode cX11_init 430 = .ok (.iastore, 1) := by decide +kernel
theorem dX11_init_431 : decode cX11_init 431 = .ok (.dup, 1) := by decide +kernel
theorem dX11_init_432 : decode cX11_init 432 = .ok (.bipush 51, 2) := by decide +kernel
theorem dX11_init_434 : decode cX11_init 434 = .ok (.bipush 104, 2) := by decide +kernel
theorem dX11_init_436 : decode cX11_init 436 = .ok (.iastore, 1) := by decide +kernel
theorem dX11_init_437 : decode cX11_init 437 = .ok (.dup, 1) := by decide +kernel
theorem dX11_init_438 : decode cX11_init 438 = .ok (.bipush 52, 2) := by decide +kernel
theorem dX11_init_440 : decode cX11_init 440 = .ok (.bipush 97, 2) := by decide +kernel
theorem dX11_init_442 : decode cX11_init 442 = .ok (.iastore, 1) := by decide +kernel
theorem dX11_init_443 : decode cX11_init 443 = .ok (.dup, 1) := by decide +kernel
theorem dX11_init_444 : decode cX11_init 444 = .ok (.bipush 53, 2) := by decide +kernel
theorem dX11_init_446 : decode cX11_init 446 = .ok (.bipush 108, 2) := by decide +kernel
theorem dX11_init_448 : decode cX11_init 448 = .ok (.iastore, 1) := by decide +kernel
theorem dX11_init_449 : decode cX11_init 449 = .ok (.dup, 1) := by decide +kernel
theorem dX11_init_450 : decode cX11_init 450 = .ok (.bipush 54, 2) := by decide +kernel
theorem dX11_init_452 : decode cX11_init 452 = .ok (.bipush 102, 2) := by decide +kernel
theorem dX11_init_454 : decode cX11_init 454 = .ok (.iastore, 1) := by decide +kernel
theorem dX11_init_455 : decode cX11_init 455 = .ok (.dup, 1) := by decide +kernel
theorem dX11_init_456 : decode cX11_init 456 = .ok (.bipush 55, 2) := by decide +kernel
theorem dX11_init_458 : decode cX11_init 458 = .ok (.bipush 32, 2) := by decide +kernel
theorem dX11_init_460 : decode cX11_init 460 = .ok (.iastore, 1) := by decide +kernel
theorem dX11_init_461 : decode cX11_init 461 = .ok (.dup, 1) := by decide +kernel
theorem dX11_init_462 : decode cX11_init 462 = .ok (.bipush 56, 2) := by decide +kernel
theorem dX11_init_464 : decode cX11_init 464 = .ok (.bipush 106, 2) := by decide +kernel
theorem dX11_init_466 : decode cX11_init 466 = .ok (.iastore, 1) := by decide +kernel
theorem dX11_init_467 : decode cX11_init 467 = .ok (.dup, 1) := by decide +kernel
theorem dX11_init_468 : decode cX11_init 468 = .ok (.bipush 57, 2) := by decide +kernel
theorem dX11_init_470 : decode cX11_init 470 = .ok (.bipush 111, 2) := by decide +kernel
theorem dX11_init_472 : decode cX11_init 472 = .ok (.iastore, 1) := by decide +kernel
theorem dX11_init_473 : decode cX11_init 473 = .ok (.dup, 1) := by decide +kernel
theorem dX11_init_474 : decode cX11_init 474 = .ok (.bipush 58, 2) := by decide +kernel
theorem dX11_init_476 : decode cX11_init 476 = .ok (.bipush 105, 2) := by decide +kernel
theorem dX11_init_478 : decode cX11_init 478 = .ok (.iastore, 1) := by decide +kernel
theorem dX11_init_479 : decode cX11_init 479 = .ok (.dup, 1) := by decide +kernel
theorem dX11_init_480 : decode cX11_init 480 = .ok (.bipush 59, 2) := by decide +kernel
theorem dX11_init_482 : decode cX11_init 482 = .ok (.bipush 110, 2) := by decide +kernel
theorem dX11_init_484 : decode cX11_init 484 = .ok (.iastore, 1) := by decide +kernel
theorem dX11_init_485 : decode cX11_init 485 = .ok (.dup, 1) := by decide +kernel
theorem dX11_init_486 : decode cX11_init 486 = .ok (.bipush 60, 2) := by decide +kernel
theorem dX11_init_488 : decode cX11_init 488 = .ok (.bipush 116, 2) := by decide +kernel
theorem dX11_init_490 : decode cX11_init 490 = .ok (.iastore, 1) := by decide +kernel
theorem dX11_init_491 : decode cX11_init 491 = .ok (.dup, 1) := by decide +kernel
theorem dX11_init_492 : decode cX11_init 492 = .ok (.bipush 61, 2) := by decide +kernel
theorem dX11_init_494 : decode cX11_init 494 = .ok (.bipush 32, 2) := by decide +kernel
theorem dX11_init_496 : decode cX11_init 496 = .ok (.iastore, 1) := by decide +kernel
theorem dX11_init_497 : decode cX11_init 497 = .ok (.dup, 1) := by decide +kernel
theorem dX11_init_498 : decode cX11_init 498 = .ok (.bipush 62, 2) := by decide +kernel
theorem dX11_init_500 : decode cX11_init 500 = .ok (.bipush 115, 2) := by decide +kernel
theorem dX11_init_502 : decode cX11_init 502 = .ok (.iastore, 1) := by decide +kernel
theorem dX11_init_503 : decode cX11_init 503 = .ok (.dup, 1) := by decide +kernel
theorem dX11_init_504 : decode cX11_init 504 = .ok (.bipush 63, 2) := by decide +kernel
theorem dX11_init_506 : decode cX11_init 506 = .ok (.bipush 105, 2) := by decide +kernel
theorem dX11_init_508 : decode cX11_init 508 = .ok (.iastore, 1) := by decide +kernel
theorem dX11_init_509 : decode cX11_init 509 = .ok (.dup, 1) := by decide +kernel
theorem dX11_init_510 : decode cX11_init 510 = .ok (.bipush 64, 2) := by decide +kernel
theorem dX11_init_512 : decode cX11_init 512 = .ok (.bipush 110, 2) := by decide +kernel
theorem dX11_init_514 : decode cX11_init 514 = .ok (.iastore, 1) := by decide +kernel
theorem dX11_init_515 : decode cX11_init 515 = .ok (.dup, 1) := by decide +kernel
theorem dX11_init_516 : decode cX11_init 516 = .ok (.bipush 65, 2) := by decide +kernel
theorem dX11_init_518 : decode cX11_init 518 = .ok (.bipush 103, 2) := by decide +kernel
theorem dX11_init_520 : decode cX11_init 520 = .ok (.iastore, 1) := by decide +kernel
theorem dX11_init_521 : decode cX11_init 521 = .ok (.dup, 1) := by decide +kernel
theorem dX11_init_522 : decode cX11_init 522 = .ok (.bipush 66, 2) := by decide +kernel
theorem dX11_init_524 : decode cX11_init 524 = .ok (.bipush 108, 2) := by decide +kernel
theorem dX11_init_526 : decode cX11_init 526 = .ok (.iastore, 1) := by decide +kernel
theorem dX11_init_527 : decode cX11_init 527 = .ok (.dup, 1) := by decide +kernel
theorem dX11_init_528 : decode cX11_init 528 = .ok (.bipush 67, 2) := by decide +kernel
theorem dX11_init_530 : decode cX11_init 530 = .ok (.bipush 101, 2) := by decide +kernel
theorem dX11_init_532 : decode cX11_init 532 = .ok (.iastore, 1) := by decide +kernel
theorem dX11_init_533 : decode cX11_init 533 = .ok (.dup, 1) := by decide +kernel
theorem dX11_init_534 : decode cX11_init 534 = .ok (.bipush 68, 2) := by decide +kernel
theorem dX11_init_536 : decode cX11_init 536 = .ok (.bipush 32, 2) := by decide +kernel
theorem dX11_init_538 : decode cX11_init 538 = .ok (.iastore, 1) := by decide +kernel
theorem dX11_init_539 : decode cX11_init 539 = .ok (.dup, 1) := by decide +kernel
theorem dX11_init_540 : decode cX11_init 540 = .ok (.bipush 69, 2) := by decide +kernel
theorem dX11_init_542 : decode cX11_init 542 = .ok (.bipush 116, 2) := by decide +kernel
theorem dX11_init_544 : decode cX11_init 544 = .ok (.iastore, 1) := by decide +kernel
theorem dX11_init_545 : decode cX11_init 545 = .ok (.dup, 1) := by decide +kernel
theorem dX11_init_546 : decode cX11_init 546 = .ok (.bipush 70, 2) := by decide +kernel
theorem dX11_init_548 : decode cX11_init 548 = .ok (.bipush 111, 2) := by decide +kernel
theorem dX11_init_550 : decode cX11_init 550 = .ok (.iastore, 1) := by decide +kernel
theorem dX11_init_551 : decode cX11_init 551 = .ok (.dup, 1) := by decide +kernel
theorem dX11_init_552 : decode cX11_init 552 = .ok (.bipush 71, 2) := by decide +kernel
theorem dX11_init_554 : decode cX11_init 554 = .ok (.bipush 32, 2) := by decide +kernel
theorem dX11_init_556 : decode cX11_init 556 = .ok (.iastore, 1) := by decide +kernel
theorem dX11_init_557 : decode cX11_init 557 = .ok (.dup, 1) := by decide +kernel
theorem dX11_init_558 : decode cX11_init 558 = .ok (.bipush 72, 2) := by decide +kernel
theorem dX11_init_560 : decode cX11_init 560 = .ok (.bipush 111, 2) := by decide +kernel
theorem dX11_init_562 : decode cX11_init 562 = .ok (.iastore, 1) := by decide +kernel
theorem dX11_init_563 : decode cX11_init 563 = .ok (.dup, 1) := by decide +kernel
theorem dX11_init_564 : decode cX11_init 564 = .ok (.bipush 73, 2) := by decide +kernel
theorem dX11_init_566 : decode cX11_init 566 = .ok (.bipush 114, 2) := by decide +kernel
