import java.io.File;
import java.io.IOException;
import java.nio.file.Files;
import java.nio.file.Path;

/** A folder of its own, made anew under build/, in which a test puts files and runs commands. */
final class Workplace {
    private static final Path ALL = Path.of("build", "workplaces");

    /** What stands in for the project's folder; there may be files beside it, such as ../shared. */
    private final Path folder;
    private final File printed;
    private final File complaints;

    Workplace(String name) {
        Path place = ALL.resolve(name);
        empty(place.toFile());
        folder = place.resolve("main");
        printed = place.resolve("printed.txt").toFile();
        complaints = place.resolve("complaints.txt").toFile();
        if (!folder.toFile().mkdirs()) {
            throw new IllegalStateException("there is no making " + folder);
        }
    }

    private static void empty(File place) {
        File[] inside = place.listFiles();
        if (inside != null) {
            for (File file : inside) {
                empty(file);
            }
        }
        if (place.exists() && !place.delete()) {
            throw new IllegalStateException("there is no deleting " + place);
        }
    }

    /** Puts a file of the project where it stands in the project. */
    void copy(String file) {
        write(file, textOf(Path.of(file)));
        if (Path.of(file).toFile().canExecute() && !folder.resolve(file).toFile().setExecutable(true)) {
            throw new IllegalStateException("there is no making " + file + " executable");
        }
    }

    void write(String file, String text) {
        try {
            Path path = folder.resolve(file).normalize();
            Files.createDirectories(path.getParent());
            Files.writeString(path, text);
        } catch (IOException e) {
            throw new IllegalStateException(file + " cannot be written: " + e);
        }
    }

    /** Runs the commands of a shell, as long as each ends well, and answers the exit code. */
    int run(String commands) {
        ProcessBuilder shell = new ProcessBuilder("bash", "-e", "-c", commands);
        shell.directory(folder.toFile()).redirectOutput(printed).redirectError(complaints);
        try {
            return shell.start().waitFor();
        } catch (IOException e) {
            throw new IllegalStateException("there is no running " + commands + ": " + e);
        } catch (InterruptedException e) {
            throw new IllegalStateException("interrupted while running " + commands);
        }
    }

    /** What the last run printed, but for its complaints. */
    String printed() {
        return textOf(printed.toPath());
    }

    /** What the last run printed as errors. */
    String complaints() {
        return textOf(complaints.toPath());
    }

    private static String textOf(Path file) {
        try {
            return Files.readString(file);
        } catch (IOException e) {
            throw new IllegalStateException(file + " cannot be read: " + e);
        }
    }
}
