/** How a call may be refused: what it answers, and which FINDING finding() tells then (0: none). */
enum Refusal {
    BAD(-1, 0), FULL(-2, 0), STATE(-4, 0), SPENT(-6, 0),
    NOTHING(-3, 1), BEYOND(-3, 2), UNLIKE(-3, 3), NOUGHT(-3, 4), SIZE(-3, 5);

    final int answer;
    final int finding;

    Refusal(int answer, int finding) {
        this.answer = answer;
        this.finding = finding;
    }

    static boolean isOne(long answer) {
        return answer < 0 && answer >= -6 && answer != -5;
    }
}
