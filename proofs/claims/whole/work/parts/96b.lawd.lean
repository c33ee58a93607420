/-! the law's instructions (wip/gen/gen_law96.py) -/
theorem d197_453 : ins 197 453 = some (.aload_n 0) := by decide +kernel
theorem d197_454 : ins 197 454 = some (.iload_n 3) := by decide +kernel
theorem d197_455 : ins 197 455 = some (.iconst 2) := by decide +kernel
theorem d197_456 : ins 197 456 = some (.iadd) := by decide +kernel
theorem d197_457 : ins 197 457 = some (.iaload) := by decide +kernel
theorem d197_458 : ins 197 458 = some (.invokevirtual 59) := by decide +kernel
theorem d197_461 : ins 197 461 = some (.if_icmp .eq 581) := by decide +kernel
theorem d197_464 : ins 197 464 = some (.iconst 0) := by decide +kernel
theorem d197_465 : ins 197 465 = some (.ireturn) := by decide +kernel
theorem d197_466 : ins 197 466 = some (.aload_n 1) := by decide +kernel
theorem d197_467 : ins 197 467 = some (.aload_n 0) := by decide +kernel
theorem d197_468 : ins 197 468 = some (.iload_n 3) := by decide +kernel
theorem d197_469 : ins 197 469 = some (.iconst 1) := by decide +kernel
theorem d197_470 : ins 197 470 = some (.iadd) := by decide +kernel
theorem d197_471 : ins 197 471 = some (.iaload) := by decide +kernel
theorem d197_472 : ins 197 472 = some (.invokevirtual 60) := by decide +kernel
theorem d197_475 : ins 197 475 = some (.aload_n 2) := by decide +kernel
theorem d197_476 : ins 197 476 = some (.aload_n 0) := by decide +kernel
theorem d197_477 : ins 197 477 = some (.iload_n 3) := by decide +kernel
theorem d197_478 : ins 197 478 = some (.iconst 1) := by decide +kernel
theorem d197_479 : ins 197 479 = some (.iadd) := by decide +kernel
theorem d197_480 : ins 197 480 = some (.iaload) := by decide +kernel
theorem d197_481 : ins 197 481 = some (.invokevirtual 63) := by decide +kernel
theorem d197_484 : ins 197 484 = some (.if_icmp .eq 558) := by decide +kernel
theorem d197_487 : ins 197 487 = some (.iconst 0) := by decide +kernel
theorem d197_488 : ins 197 488 = some (.ireturn) := by decide +kernel
theorem d197_489 : ins 197 489 = some (.aload_n 1) := by decide +kernel
theorem d197_490 : ins 197 490 = some (.aload_n 0) := by decide +kernel
theorem d197_491 : ins 197 491 = some (.iload_n 3) := by decide +kernel
theorem d197_492 : ins 197 492 = some (.iconst 1) := by decide +kernel
theorem d197_493 : ins 197 493 = some (.iadd) := by decide +kernel
theorem d197_494 : ins 197 494 = some (.iaload) := by decide +kernel
theorem d197_495 : ins 197 495 = some (.invokevirtual 64) := by decide +kernel
theorem d197_498 : ins 197 498 = some (.aload_n 2) := by decide +kernel
theorem d197_499 : ins 197 499 = some (.aload_n 0) := by decide +kernel
theorem d197_500 : ins 197 500 = some (.iload_n 3) := by decide +kernel
theorem d197_501 : ins 197 501 = some (.iconst 1) := by decide +kernel
theorem d197_502 : ins 197 502 = some (.iadd) := by decide +kernel
theorem d197_503 : ins 197 503 = some (.iaload) := by decide +kernel
theorem d197_504 : ins 197 504 = some (.invokevirtual 67) := by decide +kernel
theorem d197_507 : ins 197 507 = some (.if_icmp .eq 535) := by decide +kernel
theorem d197_510 : ins 197 510 = some (.iconst 0) := by decide +kernel
theorem d197_511 : ins 197 511 = some (.ireturn) := by decide +kernel
theorem d197_512 : ins 197 512 = some (.aload_n 1) := by decide +kernel
theorem d197_513 : ins 197 513 = some (.aload_n 0) := by decide +kernel
theorem d197_514 : ins 197 514 = some (.iload_n 3) := by decide +kernel
theorem d197_515 : ins 197 515 = some (.iconst 1) := by decide +kernel
theorem d197_516 : ins 197 516 = some (.iadd) := by decide +kernel
theorem d197_517 : ins 197 517 = some (.iaload) := by decide +kernel
theorem d197_518 : ins 197 518 = some (.invokevirtual 68) := by decide +kernel
theorem d197_521 : ins 197 521 = some (.aload_n 2) := by decide +kernel
theorem d197_522 : ins 197 522 = some (.aload_n 0) := by decide +kernel
theorem d197_523 : ins 197 523 = some (.iload_n 3) := by decide +kernel
theorem d197_524 : ins 197 524 = some (.iconst 1) := by decide +kernel
theorem d197_525 : ins 197 525 = some (.iadd) := by decide +kernel
theorem d197_526 : ins 197 526 = some (.iaload) := by decide +kernel
theorem d197_527 : ins 197 527 = some (.invokevirtual 71) := by decide +kernel
theorem d197_530 : ins 197 530 = some (.if_icmp .eq 512) := by decide +kernel
theorem d197_533 : ins 197 533 = some (.iconst 0) := by decide +kernel
theorem d197_534 : ins 197 534 = some (.ireturn) := by decide +kernel
theorem d197_535 : ins 197 535 = some (.aload_n 1) := by decide +kernel
theorem d197_536 : ins 197 536 = some (.aload_n 0) := by decide +kernel
theorem d197_537 : ins 197 537 = some (.iload_n 3) := by decide +kernel
theorem d197_538 : ins 197 538 = some (.iconst 1) := by decide +kernel
theorem d197_539 : ins 197 539 = some (.iadd) := by decide +kernel
theorem d197_540 : ins 197 540 = some (.iaload) := by decide +kernel
theorem d197_541 : ins 197 541 = some (.invokevirtual 72) := by decide +kernel
theorem d197_544 : ins 197 544 = some (.aload_n 2) := by decide +kernel
theorem d197_545 : ins 197 545 = some (.aload_n 0) := by decide +kernel
theorem d197_546 : ins 197 546 = some (.iload_n 3) := by decide +kernel
theorem d197_547 : ins 197 547 = some (.iconst 1) := by decide +kernel
theorem d197_548 : ins 197 548 = some (.iadd) := by decide +kernel
theorem d197_549 : ins 197 549 = some (.iaload) := by decide +kernel
theorem d197_550 : ins 197 550 = some (.invokevirtual 75) := by decide +kernel
theorem d197_553 : ins 197 553 = some (.if_icmp .eq 489) := by decide +kernel
theorem d197_556 : ins 197 556 = some (.iconst 0) := by decide +kernel
theorem d197_557 : ins 197 557 = some (.ireturn) := by decide +kernel
theorem d197_558 : ins 197 558 = some (.aload_n 1) := by decide +kernel
theorem d197_559 : ins 197 559 = some (.aload_n 0) := by decide +kernel
theorem d197_560 : ins 197 560 = some (.iload_n 3) := by decide +kernel
theorem d197_561 : ins 197 561 = some (.iconst 1) := by decide +kernel
theorem d197_562 : ins 197 562 = some (.iadd) := by decide +kernel
theorem d197_563 : ins 197 563 = some (.iaload) := by decide +kernel
theorem d197_564 : ins 197 564 = some (.invokevirtual 76) := by decide +kernel
theorem d197_567 : ins 197 567 = some (.aload_n 2) := by decide +kernel
theorem d197_568 : ins 197 568 = some (.aload_n 0) := by decide +kernel
theorem d197_569 : ins 197 569 = some (.iload_n 3) := by decide +kernel
theorem d197_570 : ins 197 570 = some (.iconst 1) := by decide +kernel
theorem d197_571 : ins 197 571 = some (.iadd) := by decide +kernel
theorem d197_572 : ins 197 572 = some (.iaload) := by decide +kernel
theorem d197_573 : ins 197 573 = some (.invokevirtual 79) := by decide +kernel
theorem d197_576 : ins 197 576 = some (.if_icmp .eq 466) := by decide +kernel
theorem d197_579 : ins 197 579 = some (.iconst 0) := by decide +kernel
theorem d197_580 : ins 197 580 = some (.ireturn) := by decide +kernel
theorem d197_581 : ins 197 581 = some (.aload_n 1) := by decide +kernel
theorem d197_582 : ins 197 582 = some (.aload_n 0) := by decide +kernel
theorem d197_583 : ins 197 583 = some (.iload_n 3) := by decide +kernel
theorem d197_584 : ins 197 584 = some (.iconst 1) := by decide +kernel
theorem d197_585 : ins 197 585 = some (.iadd) := by decide +kernel
theorem d197_586 : ins 197 586 = some (.iaload) := by decide +kernel
theorem d197_587 : ins 197 587 = some (.invokevirtual 80) := by decide +kernel
theorem d197_590 : ins 197 590 = some (.aload_n 2) := by decide +kernel
theorem d197_591 : ins 197 591 = some (.aload_n 0) := by decide +kernel
theorem d197_592 : ins 197 592 = some (.iload_n 3) := by decide +kernel
theorem d197_593 : ins 197 593 = some (.iconst 1) := by decide +kernel
theorem d197_594 : ins 197 594 = some (.iadd) := by decide +kernel
theorem d197_595 : ins 197 595 = some (.iaload) := by decide +kernel
theorem d197_596 : ins 197 596 = some (.invokevirtual 83) := by decide +kernel
theorem d197_599 : ins 197 599 = some (.if_icmp .eq 443) := by decide +kernel
theorem d197_602 : ins 197 602 = some (.iconst 0) := by decide +kernel
theorem d197_603 : ins 197 603 = some (.ireturn) := by decide +kernel
theorem d197_604 : ins 197 604 = some (.aload_n 1) := by decide +kernel
theorem d197_605 : ins 197 605 = some (.aload_n 0) := by decide +kernel
theorem d197_606 : ins 197 606 = some (.iload_n 3) := by decide +kernel
theorem d197_607 : ins 197 607 = some (.iconst 1) := by decide +kernel
theorem d197_608 : ins 197 608 = some (.iadd) := by decide +kernel
theorem d197_609 : ins 197 609 = some (.iaload) := by decide +kernel
theorem d197_610 : ins 197 610 = some (.aload_n 0) := by decide +kernel
theorem d197_611 : ins 197 611 = some (.iload_n 3) := by decide +kernel
theorem d197_612 : ins 197 612 = some (.iconst 2) := by decide +kernel
theorem d197_613 : ins 197 613 = some (.iadd) := by decide +kernel
theorem d197_614 : ins 197 614 = some (.iaload) := by decide +kernel
theorem d197_615 : ins 197 615 = some (.invokevirtual 84) := by decide +kernel
theorem d197_618 : ins 197 618 = some (.aload_n 2) := by decide +kernel
theorem d197_619 : ins 197 619 = some (.aload_n 0) := by decide +kernel
theorem d197_620 : ins 197 620 = some (.iload_n 3) := by decide +kernel
theorem d197_621 : ins 197 621 = some (.iconst 1) := by decide +kernel
theorem d197_622 : ins 197 622 = some (.iadd) := by decide +kernel
theorem d197_623 : ins 197 623 = some (.iaload) := by decide +kernel
theorem d197_624 : ins 197 624 = some (.aload_n 0) := by decide +kernel
theorem d197_625 : ins 197 625 = some (.iload_n 3) := by decide +kernel
theorem d197_626 : ins 197 626 = some (.iconst 2) := by decide +kernel
theorem d197_627 : ins 197 627 = some (.iadd) := by decide +kernel
theorem d197_628 : ins 197 628 = some (.iaload) := by decide +kernel
theorem d197_629 : ins 197 629 = some (.invokevirtual 87) := by decide +kernel
theorem d197_632 : ins 197 632 = some (.if_icmp .eq 410) := by decide +kernel
theorem d197_635 : ins 197 635 = some (.iconst 0) := by decide +kernel
theorem d197_636 : ins 197 636 = some (.ireturn) := by decide +kernel
theorem d197_637 : ins 197 637 = some (.aload_n 1) := by decide +kernel
theorem d197_638 : ins 197 638 = some (.aload_n 0) := by decide +kernel
theorem d197_639 : ins 197 639 = some (.iload_n 3) := by decide +kernel
theorem d197_640 : ins 197 640 = some (.iconst 1) := by decide +kernel
theorem d197_641 : ins 197 641 = some (.iadd) := by decide +kernel
theorem d197_642 : ins 197 642 = some (.iaload) := by decide +kernel
theorem d197_643 : ins 197 643 = some (.aload_n 0) := by decide +kernel
theorem d197_644 : ins 197 644 = some (.iload_n 3) := by decide +kernel
theorem d197_645 : ins 197 645 = some (.iconst 2) := by decide +kernel
theorem d197_646 : ins 197 646 = some (.iadd) := by decide +kernel
theorem d197_647 : ins 197 647 = some (.iaload) := by decide +kernel
theorem d197_648 : ins 197 648 = some (.invokevirtual 88) := by decide +kernel
theorem d197_651 : ins 197 651 = some (.aload_n 2) := by decide +kernel
theorem d197_652 : ins 197 652 = some (.aload_n 0) := by decide +kernel
theorem d197_653 : ins 197 653 = some (.iload_n 3) := by decide +kernel
theorem d197_654 : ins 197 654 = some (.iconst 1) := by decide +kernel
theorem d197_655 : ins 197 655 = some (.iadd) := by decide +kernel
theorem d197_656 : ins 197 656 = some (.iaload) := by decide +kernel
theorem d197_657 : ins 197 657 = some (.aload_n 0) := by decide +kernel
theorem d197_658 : ins 197 658 = some (.iload_n 3) := by decide +kernel
theorem d197_659 : ins 197 659 = some (.iconst 2) := by decide +kernel
theorem d197_660 : ins 197 660 = some (.iadd) := by decide +kernel
theorem d197_661 : ins 197 661 = some (.iaload) := by decide +kernel
theorem d197_662 : ins 197 662 = some (.invokevirtual 91) := by decide +kernel
theorem d197_665 : ins 197 665 = some (.if_icmp .eq 377) := by decide +kernel
theorem d197_668 : ins 197 668 = some (.iconst 0) := by decide +kernel
theorem d197_669 : ins 197 669 = some (.ireturn) := by decide +kernel
theorem d197_670 : ins 197 670 = some (.aload_n 1) := by decide +kernel
theorem d197_671 : ins 197 671 = some (.aload_n 0) := by decide +kernel
theorem d197_672 : ins 197 672 = some (.iload_n 3) := by decide +kernel
theorem d197_673 : ins 197 673 = some (.iconst 1) := by decide +kernel
theorem d197_674 : ins 197 674 = some (.iadd) := by decide +kernel
theorem d197_675 : ins 197 675 = some (.iaload) := by decide +kernel
theorem d197_676 : ins 197 676 = some (.invokevirtual 92) := by decide +kernel
theorem d197_679 : ins 197 679 = some (.aload_n 2) := by decide +kernel
theorem d197_680 : ins 197 680 = some (.aload_n 0) := by decide +kernel
theorem d197_681 : ins 197 681 = some (.iload_n 3) := by decide +kernel
theorem d197_682 : ins 197 682 = some (.iconst 1) := by decide +kernel
theorem d197_683 : ins 197 683 = some (.iadd) := by decide +kernel
theorem d197_684 : ins 197 684 = some (.iaload) := by decide +kernel
theorem d197_685 : ins 197 685 = some (.invokevirtual 95) := by decide +kernel
theorem d197_688 : ins 197 688 = some (.if_icmp .eq 354) := by decide +kernel
theorem d197_691 : ins 197 691 = some (.iconst 0) := by decide +kernel
theorem d197_692 : ins 197 692 = some (.ireturn) := by decide +kernel
theorem d197_693 : ins 197 693 = some (.aload_n 1) := by decide +kernel
theorem d197_694 : ins 197 694 = some (.invokevirtual 96) := by decide +kernel
theorem d197_697 : ins 197 697 = some (.aload_n 2) := by decide +kernel
theorem d197_698 : ins 197 698 = some (.invokevirtual 99) := by decide +kernel
theorem d197_701 : ins 197 701 = some (.if_icmp .eq 341) := by decide +kernel
theorem d197_704 : ins 197 704 = some (.iconst 0) := by decide +kernel
theorem d197_705 : ins 197 705 = some (.ireturn) := by decide +kernel
theorem d197_706 : ins 197 706 = some (.aload_n 1) := by decide +kernel
theorem d197_707 : ins 197 707 = some (.aload_n 0) := by decide +kernel
theorem d197_708 : ins 197 708 = some (.iload_n 3) := by decide +kernel
theorem d197_709 : ins 197 709 = some (.iconst 1) := by decide +kernel
theorem d197_710 : ins 197 710 = some (.iadd) := by decide +kernel
theorem d197_711 : ins 197 711 = some (.iaload) := by decide +kernel
theorem d197_712 : ins 197 712 = some (.aload_n 0) := by decide +kernel
theorem d197_713 : ins 197 713 = some (.iload_n 3) := by decide +kernel
theorem d197_714 : ins 197 714 = some (.iconst 2) := by decide +kernel
theorem d197_715 : ins 197 715 = some (.iadd) := by decide +kernel
theorem d197_716 : ins 197 716 = some (.iaload) := by decide +kernel
theorem d197_717 : ins 197 717 = some (.invokevirtual 100) := by decide +kernel
theorem d197_720 : ins 197 720 = some (.aload_n 2) := by decide +kernel
theorem d197_721 : ins 197 721 = some (.aload_n 0) := by decide +kernel
theorem d197_722 : ins 197 722 = some (.iload_n 3) := by decide +kernel
theorem d197_723 : ins 197 723 = some (.iconst 1) := by decide +kernel
theorem d197_724 : ins 197 724 = some (.iadd) := by decide +kernel
theorem d197_725 : ins 197 725 = some (.iaload) := by decide +kernel
theorem d197_726 : ins 197 726 = some (.aload_n 0) := by decide +kernel
theorem d197_727 : ins 197 727 = some (.iload_n 3) := by decide +kernel
theorem d197_728 : ins 197 728 = some (.iconst 2) := by decide +kernel
theorem d197_729 : ins 197 729 = some (.iadd) := by decide +kernel
theorem d197_730 : ins 197 730 = some (.iaload) := by decide +kernel
theorem d197_731 : ins 197 731 = some (.invokevirtual 103) := by decide +kernel
theorem d197_734 : ins 197 734 = some (.if_icmp .eq 308) := by decide +kernel
theorem d197_737 : ins 197 737 = some (.iconst 0) := by decide +kernel
theorem d197_738 : ins 197 738 = some (.ireturn) := by decide +kernel
theorem d197_739 : ins 197 739 = some (.aload_n 1) := by decide +kernel
theorem d197_740 : ins 197 740 = some (.aload_n 0) := by decide +kernel
theorem d197_741 : ins 197 741 = some (.iload_n 3) := by decide +kernel
theorem d197_742 : ins 197 742 = some (.iconst 1) := by decide +kernel
theorem d197_743 : ins 197 743 = some (.iadd) := by decide +kernel
theorem d197_744 : ins 197 744 = some (.iaload) := by decide +kernel
theorem d197_745 : ins 197 745 = some (.aload_n 0) := by decide +kernel
theorem d197_746 : ins 197 746 = some (.iload_n 3) := by decide +kernel
theorem d197_747 : ins 197 747 = some (.iconst 2) := by decide +kernel
theorem d197_748 : ins 197 748 = some (.iadd) := by decide +kernel
theorem d197_749 : ins 197 749 = some (.iaload) := by decide +kernel
theorem d197_750 : ins 197 750 = some (.aload_n 0) := by decide +kernel
theorem d197_751 : ins 197 751 = some (.iload_n 3) := by decide +kernel
