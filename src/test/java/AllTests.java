/** Runs every test of the project. */
public final class AllTests {
    private AllTests() {
    }

    public static void main(String[] args) {
        FaceTest.run();
        RuleTest.run();
        ReadmeTest.run();
        StuffTest.run();
        LayerTest.run();
        YearTest.run();
        ViewTest.run();
        GuessTest.run();
        DateTest.run();
        ScratchTest.run();
        SwabTest.run();
        MendTest.run();
        VoteTest.run();
        LoanTest.run();
        FileTest.run();
        SumTest.run();
        EdgeLayTest.run();
        EdgeViewTest.run();
        EdgeMendTest.run();
        EdgeFileTest.run();
        ModelTest.run();
        System.out.println(Check.passed + " passed, " + Check.failed + " failed");
        if (Check.failed > 0) {
            System.exit(1);
        }
    }
}
